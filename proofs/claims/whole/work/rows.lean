section
-- ===== PART A: goes FIRST, ahead of the names: the tables' words, and 'selects' of the private methods out of them =====
/-- a private method of a class that the tables say can be made, by its rows of tables_1 -/
def lw_okq (q : MethodName × Nat) : Prop := (q.1.cls ≠ "java/lang/invoke/MethodHandle" ∧ q.1.cls ≠ "java/lang/invoke/VarHandle") ∧ Cond.instantiable q.1.cls q.2 ∈ tables_1 ∧ Cond.privateMethod q.1 ∈ tables_1 ∧ Cond.instanceMethod q.1 ∈ tables_1
theorem lw_p0 : lw_okq (⟨"ShareStatistics$Definitions", "isLastOfItsDay", "(I)Z"⟩, 3) := ⟨⟨by decide +kernel, by decide +kernel⟩, List.mem_of_getElem? (i := 25) (by decide +kernel), List.mem_of_getElem? (i := 148) (by decide +kernel), List.mem_of_getElem? (i := 149) (by decide +kernel)⟩
theorem lw_p1 : lw_okq (⟨"ShareStatistics$Incidents", "isAsked", "(IIIII)Z"⟩, 10) := ⟨⟨by decide +kernel, by decide +kernel⟩, List.mem_of_getElem? (i := 42) (by decide +kernel), List.mem_of_getElem? (i := 168) (by decide +kernel), List.mem_of_getElem? (i := 169) (by decide +kernel)⟩
theorem lw_p2 : lw_okq (⟨"ShareStatistics$Incidents", "isHidden", "(I)Z"⟩, 10) := ⟨⟨by decide +kernel, by decide +kernel⟩, List.mem_of_getElem? (i := 42) (by decide +kernel), List.mem_of_getElem? (i := 172) (by decide +kernel), List.mem_of_getElem? (i := 173) (by decide +kernel)⟩
theorem lw_p3 : lw_okq (⟨"ShareStatistics$Incidents", "isInSpan", "(III)Z"⟩, 10) := ⟨⟨by decide +kernel, by decide +kernel⟩, List.mem_of_getElem? (i := 42) (by decide +kernel), List.mem_of_getElem? (i := 176) (by decide +kernel), List.mem_of_getElem? (i := 177) (by decide +kernel)⟩
theorem lw_p4 : lw_okq (⟨"ShareStatistics$Secrecy", "joinMore", "()V"⟩, 4) := ⟨⟨by decide +kernel, by decide +kernel⟩, List.mem_of_getElem? (i := 92) (by decide +kernel), List.mem_of_getElem? (i := 184) (by decide +kernel), List.mem_of_getElem? (i := 185) (by decide +kernel)⟩
theorem lw_p5 : lw_okq (⟨"ShareStatistics$Secrecy", "areaOfFewest", "()I"⟩, 4) := ⟨⟨by decide +kernel, by decide +kernel⟩, List.mem_of_getElem? (i := 92) (by decide +kernel), List.mem_of_getElem? (i := 188) (by decide +kernel), List.mem_of_getElem? (i := 189) (by decide +kernel)⟩
theorem lw_p6 : lw_okq (⟨"java/lang/Throwable", "fillInStackTrace", "(I)Ljava/lang/Throwable;"⟩, 6) := ⟨⟨by decide +kernel, by decide +kernel⟩, List.mem_of_getElem? (i := 248) (by decide +kernel), List.mem_of_getElem? (i := 246) (by decide +kernel), List.mem_of_getElem? (i := 247) (by decide +kernel)⟩
theorem lw_p7 : lw_okq (⟨"ShareStatistics", "askedTotal", "(III)I"⟩, 9) := ⟨⟨by decide +kernel, by decide +kernel⟩, List.mem_of_getElem? (i := 17) (by decide +kernel), List.mem_of_getElem? (i := 371) (by decide +kernel), List.mem_of_getElem? (i := 372) (by decide +kernel)⟩
theorem lw_p8 : lw_okq (⟨"ShareStatistics$Incidents", "amount", "(III)I"⟩, 10) := ⟨⟨by decide +kernel, by decide +kernel⟩, List.mem_of_getElem? (i := 42) (by decide +kernel), List.mem_of_getElem? (i := 380) (by decide +kernel), List.mem_of_getElem? (i := 381) (by decide +kernel)⟩
theorem lw_p9 : lw_okq (⟨"ShareStatistics$Incidents", "isWithin", "(II)Z"⟩, 10) := ⟨⟨by decide +kernel, by decide +kernel⟩, List.mem_of_getElem? (i := 42) (by decide +kernel), List.mem_of_getElem? (i := 384) (by decide +kernel), List.mem_of_getElem? (i := 385) (by decide +kernel)⟩
theorem lw_p10 : lw_okq (⟨"ShareStatistics$Incidents", "isWithout", "(II)Z"⟩, 10) := ⟨⟨by decide +kernel, by decide +kernel⟩, List.mem_of_getElem? (i := 42) (by decide +kernel), List.mem_of_getElem? (i := 388) (by decide +kernel), List.mem_of_getElem? (i := 389) (by decide +kernel)⟩
theorem lw_p11 : lw_okq (⟨"ShareStatistics$Incidents", "hasBothValues", "(I)Z"⟩, 10) := ⟨⟨by decide +kernel, by decide +kernel⟩, List.mem_of_getElem? (i := 42) (by decide +kernel), List.mem_of_getElem? (i := 392) (by decide +kernel), List.mem_of_getElem? (i := 393) (by decide +kernel)⟩
theorem lw_p12 : lw_okq (⟨"ShareStatistics", "rowsWithin", "(II)I"⟩, 9) := ⟨⟨by decide +kernel, by decide +kernel⟩, List.mem_of_getElem? (i := 17) (by decide +kernel), List.mem_of_getElem? (i := 418) (by decide +kernel), List.mem_of_getElem? (i := 419) (by decide +kernel)⟩
theorem lw_p13 : lw_okq (⟨"ShareStatistics", "rowsNotWithout", "(II)I"⟩, 9) := ⟨⟨by decide +kernel, by decide +kernel⟩, List.mem_of_getElem? (i := 17) (by decide +kernel), List.mem_of_getElem? (i := 422) (by decide +kernel), List.mem_of_getElem? (i := 423) (by decide +kernel)⟩
theorem lw_p14 : lw_okq (⟨"ShareStatistics$Incidents", "sortIn", "(II)V"⟩, 10) := ⟨⟨by decide +kernel, by decide +kernel⟩, List.mem_of_getElem? (i := 42) (by decide +kernel), List.mem_of_getElem? (i := 462) (by decide +kernel), List.mem_of_getElem? (i := 463) (by decide +kernel)⟩
theorem lw_p15 : lw_okq (⟨"ShareStatistics", "rowsOfArea", "(I)I"⟩, 9) := ⟨⟨by decide +kernel, by decide +kernel⟩, List.mem_of_getElem? (i := 17) (by decide +kernel), List.mem_of_getElem? (i := 533) (by decide +kernel), List.mem_of_getElem? (i := 534) (by decide +kernel)⟩
def lw_privs_1 : List (MethodName × Nat) := [(⟨"ShareStatistics$Definitions", "isLastOfItsDay", "(I)Z"⟩, 3), (⟨"ShareStatistics$Incidents", "isAsked", "(IIIII)Z"⟩, 10), (⟨"ShareStatistics$Incidents", "isHidden", "(I)Z"⟩, 10), (⟨"ShareStatistics$Incidents", "isInSpan", "(III)Z"⟩, 10), (⟨"ShareStatistics$Secrecy", "joinMore", "()V"⟩, 4), (⟨"ShareStatistics$Secrecy", "areaOfFewest", "()I"⟩, 4), (⟨"java/lang/Throwable", "fillInStackTrace", "(I)Ljava/lang/Throwable;"⟩, 6), (⟨"ShareStatistics", "askedTotal", "(III)I"⟩, 9), (⟨"ShareStatistics$Incidents", "amount", "(III)I"⟩, 10), (⟨"ShareStatistics$Incidents", "isWithin", "(II)Z"⟩, 10), (⟨"ShareStatistics$Incidents", "isWithout", "(II)Z"⟩, 10), (⟨"ShareStatistics$Incidents", "hasBothValues", "(I)Z"⟩, 10), (⟨"ShareStatistics", "rowsWithin", "(II)I"⟩, 9), (⟨"ShareStatistics", "rowsNotWithout", "(II)I"⟩, 9), (⟨"ShareStatistics$Incidents", "sortIn", "(II)V"⟩, 10), (⟨"ShareStatistics", "rowsOfArea", "(I)I"⟩, 9)]
theorem lw_r1 : ∀ q ∈ lw_privs_1, lw_okq q := List.forall_mem_cons.mpr ⟨lw_p0, List.forall_mem_cons.mpr ⟨lw_p1, List.forall_mem_cons.mpr ⟨lw_p2, List.forall_mem_cons.mpr ⟨lw_p3, List.forall_mem_cons.mpr ⟨lw_p4, List.forall_mem_cons.mpr ⟨lw_p5, List.forall_mem_cons.mpr ⟨lw_p6, List.forall_mem_cons.mpr ⟨lw_p7, List.forall_mem_cons.mpr ⟨lw_p8, List.forall_mem_cons.mpr ⟨lw_p9, List.forall_mem_cons.mpr ⟨lw_p10, List.forall_mem_cons.mpr ⟨lw_p11, List.forall_mem_cons.mpr ⟨lw_p12, List.forall_mem_cons.mpr ⟨lw_p13, List.forall_mem_cons.mpr ⟨lw_p14, List.forall_mem_cons.mpr ⟨lw_p15, fun _ h => absurd h List.not_mem_nil⟩⟩⟩⟩⟩⟩⟩⟩⟩⟩⟩⟩⟩⟩⟩⟩
theorem lw_p16 : lw_okq (⟨"ShareStatistics$Incidents", "isWork", "(IIII)Z"⟩, 10) := ⟨⟨by decide +kernel, by decide +kernel⟩, List.mem_of_getElem? (i := 42) (by decide +kernel), List.mem_of_getElem? (i := 577) (by decide +kernel), List.mem_of_getElem? (i := 578) (by decide +kernel)⟩
theorem lw_p17 : lw_okq (⟨"ShareStatisticsModel", "throwing", "(ZZZ)Z"⟩, 24) := ⟨⟨by decide +kernel, by decide +kernel⟩, List.mem_of_getElem? (i := 585) (by decide +kernel), List.mem_of_getElem? (i := 678) (by decide +kernel), List.mem_of_getElem? (i := 679) (by decide +kernel)⟩
theorem lw_p18 : lw_okq (⟨"ShareStatisticsModel", "thrownBy", "(ZZZ)I"⟩, 24) := ⟨⟨by decide +kernel, by decide +kernel⟩, List.mem_of_getElem? (i := 585) (by decide +kernel), List.mem_of_getElem? (i := 682) (by decide +kernel), List.mem_of_getElem? (i := 683) (by decide +kernel)⟩
theorem lw_p19 : lw_okq (⟨"ShareStatisticsModel", "isAsked", "(I)Z"⟩, 24) := ⟨⟨by decide +kernel, by decide +kernel⟩, List.mem_of_getElem? (i := 585) (by decide +kernel), List.mem_of_getElem? (i := 702) (by decide +kernel), List.mem_of_getElem? (i := 703) (by decide +kernel)⟩
theorem lw_p20 : lw_okq (⟨"ShareStatisticsModel", "fits", "(IIIII)Z"⟩, 24) := ⟨⟨by decide +kernel, by decide +kernel⟩, List.mem_of_getElem? (i := 585) (by decide +kernel), List.mem_of_getElem? (i := 706) (by decide +kernel), List.mem_of_getElem? (i := 707) (by decide +kernel)⟩
theorem lw_p21 : lw_okq (⟨"ShareStatisticsModel", "isWithin", "(I)Z"⟩, 24) := ⟨⟨by decide +kernel, by decide +kernel⟩, List.mem_of_getElem? (i := 585) (by decide +kernel), List.mem_of_getElem? (i := 710) (by decide +kernel), List.mem_of_getElem? (i := 711) (by decide +kernel)⟩
theorem lw_p22 : lw_okq (⟨"ShareStatisticsModel", "isWithout", "(I)Z"⟩, 24) := ⟨⟨by decide +kernel, by decide +kernel⟩, List.mem_of_getElem? (i := 585) (by decide +kernel), List.mem_of_getElem? (i := 714) (by decide +kernel), List.mem_of_getElem? (i := 715) (by decide +kernel)⟩
theorem lw_p23 : lw_okq (⟨"ShareStatisticsModel", "hasBoth", "(I)Z"⟩, 24) := ⟨⟨by decide +kernel, by decide +kernel⟩, List.mem_of_getElem? (i := 585) (by decide +kernel), List.mem_of_getElem? (i := 718) (by decide +kernel), List.mem_of_getElem? (i := 719) (by decide +kernel)⟩
theorem lw_p24 : lw_okq (⟨"ShareStatisticsModel", "markOf", "(I)I"⟩, 24) := ⟨⟨by decide +kernel, by decide +kernel⟩, List.mem_of_getElem? (i := 585) (by decide +kernel), List.mem_of_getElem? (i := 722) (by decide +kernel), List.mem_of_getElem? (i := 723) (by decide +kernel)⟩
theorem lw_p25 : lw_okq (⟨"ShareStatisticsModel", "sharesOf", "(III)I"⟩, 24) := ⟨⟨by decide +kernel, by decide +kernel⟩, List.mem_of_getElem? (i := 585) (by decide +kernel), List.mem_of_getElem? (i := 734) (by decide +kernel), List.mem_of_getElem? (i := 735) (by decide +kernel)⟩
theorem lw_p26 : lw_okq (⟨"ShareStatisticsModel", "sumOf", "(I)I"⟩, 24) := ⟨⟨by decide +kernel, by decide +kernel⟩, List.mem_of_getElem? (i := 585) (by decide +kernel), List.mem_of_getElem? (i := 745) (by decide +kernel), List.mem_of_getElem? (i := 746) (by decide +kernel)⟩
theorem lw_p27 : lw_okq (⟨"ShareStatisticsModel", "gain", "(II)I"⟩, 24) := ⟨⟨by decide +kernel, by decide +kernel⟩, List.mem_of_getElem? (i := 585) (by decide +kernel), List.mem_of_getElem? (i := 761) (by decide +kernel), List.mem_of_getElem? (i := 762) (by decide +kernel)⟩
theorem lw_p28 : lw_okq (⟨"ShareStatisticsModel", "ordersFrom", "(II)I"⟩, 24) := ⟨⟨by decide +kernel, by decide +kernel⟩, List.mem_of_getElem? (i := 585) (by decide +kernel), List.mem_of_getElem? (i := 765) (by decide +kernel), List.mem_of_getElem? (i := 766) (by decide +kernel)⟩
theorem lw_p29 : lw_okq (⟨"ShareStatisticsModel", "rowsOf", "(II)I"⟩, 24) := ⟨⟨by decide +kernel, by decide +kernel⟩, List.mem_of_getElem? (i := 585) (by decide +kernel), List.mem_of_getElem? (i := 778) (by decide +kernel), List.mem_of_getElem? (i := 779) (by decide +kernel)⟩
theorem lw_p30 : lw_okq (⟨"ShareStatisticsModel", "join", "()I"⟩, 24) := ⟨⟨by decide +kernel, by decide +kernel⟩, List.mem_of_getElem? (i := 585) (by decide +kernel), List.mem_of_getElem? (i := 794) (by decide +kernel), List.mem_of_getElem? (i := 795) (by decide +kernel)⟩
def lw_privs_2 : List (MethodName × Nat) := [(⟨"ShareStatistics$Incidents", "isWork", "(IIII)Z"⟩, 10), (⟨"ShareStatisticsModel", "throwing", "(ZZZ)Z"⟩, 24), (⟨"ShareStatisticsModel", "thrownBy", "(ZZZ)I"⟩, 24), (⟨"ShareStatisticsModel", "isAsked", "(I)Z"⟩, 24), (⟨"ShareStatisticsModel", "fits", "(IIIII)Z"⟩, 24), (⟨"ShareStatisticsModel", "isWithin", "(I)Z"⟩, 24), (⟨"ShareStatisticsModel", "isWithout", "(I)Z"⟩, 24), (⟨"ShareStatisticsModel", "hasBoth", "(I)Z"⟩, 24), (⟨"ShareStatisticsModel", "markOf", "(I)I"⟩, 24), (⟨"ShareStatisticsModel", "sharesOf", "(III)I"⟩, 24), (⟨"ShareStatisticsModel", "sumOf", "(I)I"⟩, 24), (⟨"ShareStatisticsModel", "gain", "(II)I"⟩, 24), (⟨"ShareStatisticsModel", "ordersFrom", "(II)I"⟩, 24), (⟨"ShareStatisticsModel", "rowsOf", "(II)I"⟩, 24), (⟨"ShareStatisticsModel", "join", "()I"⟩, 24)]
theorem lw_r2 : ∀ q ∈ lw_privs_2, lw_okq q := List.forall_mem_cons.mpr ⟨lw_p16, List.forall_mem_cons.mpr ⟨lw_p17, List.forall_mem_cons.mpr ⟨lw_p18, List.forall_mem_cons.mpr ⟨lw_p19, List.forall_mem_cons.mpr ⟨lw_p20, List.forall_mem_cons.mpr ⟨lw_p21, List.forall_mem_cons.mpr ⟨lw_p22, List.forall_mem_cons.mpr ⟨lw_p23, List.forall_mem_cons.mpr ⟨lw_p24, List.forall_mem_cons.mpr ⟨lw_p25, List.forall_mem_cons.mpr ⟨lw_p26, List.forall_mem_cons.mpr ⟨lw_p27, List.forall_mem_cons.mpr ⟨lw_p28, List.forall_mem_cons.mpr ⟨lw_p29, List.forall_mem_cons.mpr ⟨lw_p30, fun _ h => absurd h List.not_mem_nil⟩⟩⟩⟩⟩⟩⟩⟩⟩⟩⟩⟩⟩⟩⟩
def lw_privs : List (MethodName × Nat) := lw_privs_1 ++ (lw_privs_2)
def lw_tbl : List Cond := k2_sels lw_privs ++ tables_1
theorem lw_privs_ok : ∀ q ∈ lw_privs, lw_okq q := by
  show ∀ q ∈ lw_privs_1 ++ (lw_privs_2), lw_okq q
  exact List.forall_mem_append.mpr ⟨lw_r1, lw_r2⟩
end
section
/-! ===== BEGIN words of one list among another's, by their places ===== -/
theorem goodIn_r {big : List Cond} (ws : List Cond) (ps : List Nat) (hp : ws = ps.filterMap (fun i => big[i]?)) (h : ws.all goodWord = true) : GoodIn big ws := by
  intro w hw
  have h1 := List.all_eq_true.mp h w hw
  rw [hp] at hw
  obtain ⟨i, -, hi⟩ := List.mem_filterMap.mp hw
  have hm : w ∈ big := by first | exact List.mem_of_getElem? hi | exact List.getElem?_mem hi
  exact ⟨hm, good_of_word h1⟩
theorem goodIn_app {big a b : List Cond} (ha : GoodIn big a) (hb : GoodIn big b) : GoodIn big (a ++ b) := fun w h => (List.mem_append.mp h).elim (ha w) (hb w)
theorem goodIn_ca {big a b : List Cond} {c : Cond} (ha : GoodIn big (c :: a)) (hb : GoodIn big b) : GoodIn big (c :: (a ++ b)) := fun w h => (List.mem_cons.mp h).elim (fun e => ha w (List.mem_cons.mpr (Or.inl e))) (fun h => (List.mem_append.mp h).elim (fun h => ha w (List.mem_cons.mpr (Or.inr h))) (hb w))
theorem goodIn_sub {big ws : List Cond} (hm : ∀ w ∈ ws, w ∈ big) (h : ws.all goodWord = true) : GoodIn big ws := fun w hw => ⟨hm w hw, good_of_word (List.all_eq_true.mp h w hw)⟩
/-! ===== END ===== -/

/-! ===== BEGIN exceptions that leave a method, and their catching by the caller (launches without stack traces) ===== -/
section VXA
/-! The laws vx_back, vx_callV, vx_callS, vx_callSW, vx_throw0, vx_throwS follow proofs of the library, with one case more: JvmDerived/Free/Laws.lean (Back.of_free), Shelf42/LK1.lean (callV, callS), Shelf/KitTraced.lean (throwNew0V, throwNewS). -/
/-- where a method has thrown q: the class by its name, the cell, what was written, the world -/
def vx_T (XC : String → State → State → Prop) (st : State) (q : Addr) (t : State) (mc ms : Nat) (free : Addr → Prop) : Prop :=
  ∃ (E : String) (ce : Cell) (L : List Loc), XC E st t ∧ t.heap[q]? = some ce ∧ ce.vm = .none ∧ st.vm.findClass E = some ce.cls ∧ st.WarmedH t.vm ∧ st.sameButNew ({ t with vm := st.vm } : State) L mc ms ∧ ∀ z ∈ L, free z.base
def vx_Q (Qc : Array Value → State → Outcome → State → Prop) (XC : String → State → State → Prop) (mc ms : Nat) (free : Addr → Prop) : Array Value → State → Outcome → State → Prop := fun a st o t =>
  (Qc a st o t ∧ ∃ L, FrameEnd st o t L mc ms ∧ ∀ q ∈ L, free q.base) ∨ ∃ q, o = .threw q ∧ vx_T XC st q t mc ms free
/-- a callee that returns or throws -/
def vx_Met (l : Launch) (y : MethodName) (ws : List Cond) (rm : Room) (Pc : Array Value → State → Prop) (Qc : Array Value → State → Outcome → State → Prop) (XC : String → State → State → Prop) (mc ms : Nat) (free : Addr → Prop) : Prop :=
  MetFree l y (headSpec ws rm) Pc (fun _ _ _ _ _ => True) (vx_Q Qc XC mc ms free)
def vx_Post (XC : String → State → State → Prop) (mc ms : Nat) (free : Addr → Prop) : Pt → Array Value → Addr → Pt → Prop := fun A a q B =>
  ∃ (g : JFrame) (mk : MethodId) (t : State) (L : List Loc) (E : String) (ce : Cell), B.U.heap = t.heap ∧ B.U.vm = t.vm ∧ XC E (A.U.calling g mk a) t ∧ t.heap[q]? = some ce ∧ ce.vm = .none ∧ A.U.vm.findClass E = some ce.cls ∧ B.locs = A.locs ++ L ∧ (∀ z ∈ L, free z.base) ∧ B.cells = A.cells + mc ∧ B.slots = A.slots + ms
def vx_Back (l : Launch) (R : Room) (p : Program) (e : Env) (below : List Frame) (s : State) (sargs : Array Value) (y : MethodName) (len W9 : Nat)
    (Pre : Pt → Array Value → Prop) (Post : Pt → Array Value → Option Value → Pt → Prop) (PostX : Pt → Array Value → Addr → Pt → Prop) : Prop :=
  ∀ (m : MethodId) (meth : Method) (c : Code) (A : Pt) (g : JFrame) (ig : Instr) (mk : MethodId) (a : Array Value),
    Stand p l e R s m sargs below meth c A.U A.locs A.cells A.slots → g.method = m → g.locals.size = c.maxLocals → decode c.code g.pc = .ok (ig, len) →
    2 * g.monitorRoom + (g.stack.map fun v => v.category).sum ≤ W9 → A.U.methodNamed? y = some mk → Pre A a →
    (∃ (v : Option Value) (B : Pt), Stand p l e R s m sargs below meth c B.U B.locs B.cells B.slots ∧ Post A a v B ∧
      Steps p.tables e below (doInvoke e (A.U.setTop g) [] mk a).1 (B.U.setTop { g with pc := g.pc + len, stack := v.toList ++ g.stack })) ∨
    (∃ (q : Addr) (B : Pt), Stand p l e R s m sargs below meth c B.U B.locs B.cells B.slots ∧ PostX A a q B ∧
      Steps p.tables e below (doInvoke e (A.U.setTop g) [] mk a).1 ((B.U.setTop g).pushFrame (.throwing q)))
section Payer
variable {l : Launch} {R : Room} {p : Program} {e : Env} {below : List Frame} {s : State} {sargs : Array Value} {y : MethodName} {len W9 : Nat}
theorem vx_back {ws : List Cond} {rm : Room} {Pc : Array Value → State → Prop} {Qc : Array Value → State → Outcome → State → Prop} {XC : String → State → State → Prop} {mc ms : Nat} {free : Addr → Prop} {bytes : ByteArray} {maxL : Nat} {ret : Option FieldType}
    (hM : vx_Met l y ws rm Pc Qc XC mc ms free) (hblind : FrameBlind Pc) (hrc : rm.cells = mc) (hrs : rm.slots = ms)
    (hframes : rm.frames + 1 ≤ R.frames) (hlocals : W9 + (maxL + 11) + rm.locals ≤ R.locals)
    (hws : ∀ w ∈ ws, ∀ a' U, s.WarmedH U.vm → w.before a' U = true) (hcode : Cond.code y bytes maxL ret ∈ ws) (hinit : ∀ a' U, s.WarmedH U.vm → (Cond.initialized y.cls).before a' U = true) :
    vx_Back l R p e below s sargs y len W9 (PreOf R mc ms Pc) (PostOf Qc mc ms free) (vx_Post XC mc ms free) := by
  intro m meth c A g ig mk a X hg hsize hdg hW hn hp
  have h1 : (headSpec ws rm).pre.before a A.U = true := atoms_intro fun w hw => hws w hw _ _ X.warmed
  have h2 : (Cond.code y bytes maxL ret).before a A.U = true := hws _ hcode _ _ X.warmed
  have h3 : (Cond.initialized y.cls).before a A.U = true := hinit _ _ X.warmed
  have h4 : A.cells + (headSpec ws rm).room.cells ≤ R.cells := by rw [show (headSpec ws rm).room.cells = mc from hrc]; exact hp.1
  have h5 : A.slots + (headSpec ws rm).room.slots ≤ R.slots := by rw [show (headSpec ws rm).room.slots = ms from hrs]; exact hp.2.1
  have hPc : Pc a (A.U.calling g mk a) := hblind _ _ _ _ hp.2.2
  obtain ⟨U, Ls, c0, s0⟩ := A
  dsimp only [Pt.U, Pt.locs, Pt.cells, Pt.slots] at h1 h2 h3 h4 h5 X hn hPc ⊢
  obtain ⟨methY, cY, hmY, hcY, -, hlY, -, -, -, -⟩ := Cond.code_spec hn h2
  obtain ⟨kY, hkY, -⟩ := className_of_methodNamed hn
  have hinitY : kY.init = .initialized := Cond.initialized_spec (findClass_of_methodNamed hn) hkY h3
  have h : At U g.method c below := by rw [hg]; exact X.here
  have hlocals9 : W9 + (maxL + 11) + (headSpec ws rm).room.locals ≤ R.locals := hlocals
  have happ : (headSpec ws rm).appliesLoose y e.platform (U.calling g mk a) = true :=
    Spec.appliesLoose_calling (g := g) h hdg hn hkY hinitY
      (X.room_calling (g := g) (R' := (headSpec ws rm).room) hsize hmY hcY hframes (by rw [hlY]; omega) h4 h5) h1
  obtain ⟨mid, hmid⟩ := h.above
  have hfr : (U.setTop g).frames = (.java g :: mid) ++ below := by rw [State.frames_setTop' g h.top, hmid]; rfl
  obtain ⟨o, s₂, hsteps, -, hend, hq⟩ := Steps.callFree hM p X.admits X.cas X.clock (acts := []) hfr happ hPc trivial
  have hq' : vx_Q Qc XC mc ms free a (U.calling g mk a) o s₂ := hq
  rw [State.frames_setTop' g h.top] at hend
  obtain ⟨g₀, hg0⟩ := Option.isSome_iff_exists.mp h.top
  obtain ⟨r, hr⟩ := State.topJava?_eq_some.mp hg0
  have hr' : (({ U with heap := s₂.heap, slotsUsed := s₂.slotsUsed } : State).setVm s₂.vm).frames = .java g₀ :: r := hr
  rcases hq' with ⟨hqc, L, hfe, hL⟩ | ⟨q, rfl, E, ce, L, hx, hce, hcv, hcl, hW₂, hsm, hL⟩
  · obtain ⟨⟨v, rfl⟩, hW₂, e2, q2, q3, q4, q5, q6⟩ := id hfe
    have e3 : s₂ = ({ (U.calling g mk a).setFrames s₂.frames with heap := s₂.heap, slotsUsed := s₂.slotsUsed } : State).setVm s₂.vm := by
      have : s₂ = ({ s₂ with vm := (U.calling g mk a).vm } : State).setVm s₂.vm := rfl
      rw [e2] at this
      exact this
    obtain ⟨c₂, i₂, len₂, hc₂, hd₂, hf₂⟩ := hend
    have hW' : U.WarmedH s₂.vm := hW₂
    have hcc : c₂ = c := by
      have h1 : s₂.code? g.method = U.code? g.method := by
        rw [State.code?_eq, State.code?_eq, hW'.alike.method?]
      exact Option.some.inj (hc₂.symm.trans (h1.trans h.code))
    subst hcc
    have hlen : len₂ = len := by rw [hdg] at hd₂; cases hd₂; rfl
    subst hlen
    have hs₂ : s₂ = (({ U with heap := s₂.heap, slotsUsed := s₂.slotsUsed } : State).setVm s₂.vm).setTop { g with pc := g.pc + len₂, stack := v.toList ++ g.stack } := by
      refine e3.trans ?_
      rw [hf₂, State.calling_eq h.top, State.setFrames_setFrames, State.setTop_of_frames _ hr', hr]
      rfl
    have hsame : U.sameButNew ({ U with heap := s₂.heap, slotsUsed := s₂.slotsUsed } : State) L mc ms := by
      refine ⟨?_, q2, q3, q4, q5, q6⟩
      obtain ⟨t, ht, -⟩ := State.frames_cons hr
      show ({ U with heap := s₂.heap, slotsUsed := s₂.slotsUsed } : State) = { U.setFrames U.frames with heap := s₂.heap, slotsUsed := s₂.slotsUsed }
      rw [State.setFrames_self ht]
    subst hg
    refine Or.inl ⟨v, ⟨(({ U with heap := s₂.heap, slotsUsed := s₂.slotsUsed } : State).setVm s₂.vm), Ls ++ L, c0 + mc, s0 + ms⟩,
      ⟨X.admits, X.cas, X.clock, X.frames, X.room, X.hears, X.method, X.code, (X.here.setHeapUsed s₂.heap s₂.slotsUsed).setVm hW'.alike, X.tail, State.WarmedH.trans X.warmed hW', X.limits, X.bytes, X.same.trans (hsame.setVm s.vm)⟩,
      ⟨g, mk, s₂, L, rfl, rfl, hqc, rfl, hL, rfl, rfl⟩, ?_⟩
    show Steps p.tables e below _ ((({ U with heap := s₂.heap, slotsUsed := s₂.slotsUsed } : State).setVm s₂.vm).setTop { g with pc := g.pc + len₂, stack := v.toList ++ g.stack })
    rw [← hs₂]
    exact hsteps
  · obtain ⟨e2, q2, q3, q4, q5, q6⟩ := id hsm
    have e3 : s₂ = ({ (U.calling g mk a).setFrames s₂.frames with heap := s₂.heap, slotsUsed := s₂.slotsUsed } : State).setVm s₂.vm := by
      have : s₂ = ({ s₂ with vm := (U.calling g mk a).vm } : State).setVm s₂.vm := rfl
      rw [e2] at this
      exact this
    have hf₂ : s₂.frames = .throwing q :: .java g :: U.frames.tail := hend
    have hW' : U.WarmedH s₂.vm := hW₂
    have hs₂ : s₂ = ((({ U with heap := s₂.heap, slotsUsed := s₂.slotsUsed } : State).setVm s₂.vm).setTop g).pushFrame (.throwing q) := by
      refine e3.trans ?_
      rw [hf₂, State.calling_eq h.top, State.setFrames_setFrames, State.pushFrame, State.frames_setTop _ hr', State.setTop_of_frames _ hr', State.setFrames_setFrames, hr]
      rfl
    have hsame : U.sameButNew ({ U with heap := s₂.heap, slotsUsed := s₂.slotsUsed } : State) L mc ms := by
      refine ⟨?_, q2, q3, q4, q5, q6⟩
      obtain ⟨t, ht, -⟩ := State.frames_cons hr
      show ({ U with heap := s₂.heap, slotsUsed := s₂.slotsUsed } : State) = { U.setFrames U.frames with heap := s₂.heap, slotsUsed := s₂.slotsUsed }
      rw [State.setFrames_self ht]
    subst hg
    refine Or.inr ⟨q, ⟨(({ U with heap := s₂.heap, slotsUsed := s₂.slotsUsed } : State).setVm s₂.vm), Ls ++ L, c0 + mc, s0 + ms⟩,
      ⟨X.admits, X.cas, X.clock, X.frames, X.room, X.hears, X.method, X.code, (X.here.setHeapUsed s₂.heap s₂.slotsUsed).setVm hW'.alike, X.tail, State.WarmedH.trans X.warmed hW', X.limits, X.bytes, X.same.trans (hsame.setVm s.vm)⟩,
      ⟨g, mk, s₂, L, E, ce, rfl, rfl, hx, hce, hcv, hcl, rfl, hL, rfl, rfl⟩, ?_⟩
    show Steps p.tables e below _ (((({ U with heap := s₂.heap, slotsUsed := s₂.slotsUsed } : State).setVm s₂.vm).setTop g).pushFrame (.throwing q))
    rw [← hs₂]
    exact hsteps
end Payer
section Calls
variable {p : Program} {l : Launch} {e : Env} {R : Room} {s : State} {m : MethodId} {args : Array Value} {below : List Frame} {meth : Method} {c : Code} {T : State} {locs : List Loc} {cells slots : Nat}
theorem vx_callV (X : Stand p l e R s m args below meth c T locs cells slots) (hexec : p.tables.exec = Jvm.exec) {own C : String} {index : Nat} {y : MethodName} {bytes : ByteArray} {maxL : Nat} {ret : Option FieldType}
    (hown : s.vm.findClass own = some m.cls) (hlink : (Cond.methodLink own index y).before args s = true) (hinst : (Cond.instanceMethod y).before args s = true) (hsel : (Cond.selects C y y).before args s = true)
    (hcode : (Cond.code y bytes maxL ret).before args s = true) (hy : y.cls ≠ "java/lang/invoke/MethodHandle" ∧ y.cls ≠ "java/lang/invoke/VarHandle")
    {W9 : Nat} {Pre : Pt → Array Value → Prop} {Post : Pt → Array Value → Option Value → Pt → Prop} {PostX : Pt → Array Value → Addr → Pt → Prop} (hK : vx_Back l R p e below s args y 3 W9 Pre Post PostX)
    {b : Addr} {cellB : Cell} (hcell : T.heap[b]? = some cellB) (hobj : cellB.vm.isStatics = false) (hcls : s.vm.findClass C = some cellB.cls)
    {g : JFrame} (hg : g.method = m) (hsize : g.locals.size = c.maxLocals) {argsL rest : List Value} (hlen : ∀ sig, parseMethodDescriptor y.desc = some sig → argsL.length = sig.parameters.length)
    (hstack : g.stack = argsL.reverse ++ .ref b :: rest) (hW : 2 * g.monitorRoom + (rest.map fun v => v.category).sum ≤ W9) (hdg : decode c.code g.pc = .ok (.invokevirtual index, 3))
    (hpre : ∀ vm₁, s.WarmedH vm₁ → Pre ⟨T.setVm vm₁, locs, cells, slots⟩ (Value.ref b :: argsL).toArray) :
    (∃ (v : Option Value) (vm₁ : Vm) (B : Pt), s.WarmedH vm₁ ∧ Stand p l e R s m args below meth c B.U B.locs B.cells B.slots ∧ Post ⟨T.setVm vm₁, locs, cells, slots⟩ (Value.ref b :: argsL).toArray v B ∧
      ∀ target, Steps p.tables e below (B.U.setTop { g with pc := g.pc + 3, stack := v.toList ++ rest }) target → Steps p.tables e below (T.setTop g) target) ∨
    (∃ (q : Addr) (vm₁ : Vm) (B : Pt), s.WarmedH vm₁ ∧ Stand p l e R s m args below meth c B.U B.locs B.cells B.slots ∧ PostX ⟨T.setVm vm₁, locs, cells, slots⟩ (Value.ref b :: argsL).toArray q B ∧
      Steps p.tables e below (T.setTop g) ((B.U.setTop { g with stack := rest }).pushFrame (.throwing q))) := by
  obtain ⟨mk, methM, hnamed, hmethM, hstM, habM⟩ := Cond.instanceMethod_spec hinst
  obtain ⟨methM', cM, hmethM', -, -, -, -, -, -, hsigM⟩ := Cond.code_spec hnamed hcode
  cases hmethM.symm.trans hmethM'
  obtain ⟨c2, r2, m2, q1, q2, q3, q4, kP, hkP, hkPi⟩ := Cond.selects_spec hsel
  cases hcls.symm.trans q1
  cases (State.methodFound?_of_named hnamed hy).symm.trans q2
  cases hnamed.symm.trans q3
  have hselP : selectMethod e.platform s.vm cellB.cls mk = .method mk := by rw [Launch.admits_selectMethod X.admits]; exact q4
  obtain ⟨vm₁, X₁, hstep₁⟩ := X.invokevirtual hexec hown hlink hnamed hmethM hstM hkP hkPi hy (a := b) (cell := cellB) hcell
    (fun z h => by rw [h] at hobj; cases hobj) hselP hmethM habM hkP hkPi (g := g) hg (argsL := argsL) (rest := rest) (hlen _ hsigM) hstack hdg
  rcases hK m meth c ⟨T.setVm vm₁, locs, cells, slots⟩ { g with stack := rest } (.invokevirtual index) mk (Value.ref b :: argsL).toArray X₁ hg hsize hdg hW (X₁.named hnamed) (hpre vm₁ X₁.warmed) with ⟨v, B, X', hpost, hsteps⟩ | ⟨q, B, X', hpost, hsteps⟩
  · exact Or.inl ⟨v, vm₁, B, X₁.warmed, X', hpost, fun target h => hstep₁ _ fun acts => by rw [doInvoke_state]; exact hsteps.trans h⟩
  · exact Or.inr ⟨q, vm₁, B, X₁.warmed, X', hpost, hstep₁ _ fun acts => by rw [doInvoke_state]; exact hsteps⟩
theorem vx_callS (X : Stand p l e R s m args below meth c T locs cells slots) (hexec : p.tables.exec = Jvm.exec) {own : String} {index : Nat} {y : MethodName} {bytes : ByteArray} {maxL : Nat} {ret : Option FieldType}
    (hown : s.vm.findClass own = some m.cls) (hlink : (Cond.methodLink own index y).before args s = true) (hstat : (Cond.static y).before args s = true) (hinit : (Cond.initialized y.cls).before args s = true)
    (hcode : (Cond.code y bytes maxL ret).before args s = true) (hy : y.cls ≠ "java/lang/invoke/MethodHandle" ∧ y.cls ≠ "java/lang/invoke/VarHandle")
    {W9 : Nat} {Pre : Pt → Array Value → Prop} {Post : Pt → Array Value → Option Value → Pt → Prop} {PostX : Pt → Array Value → Addr → Pt → Prop} (hK : vx_Back l R p e below s args y 3 W9 Pre Post PostX)
    {g : JFrame} (hg : g.method = m) (hsize : g.locals.size = c.maxLocals) {argsL rest : List Value} (hlen : ∀ sig, parseMethodDescriptor y.desc = some sig → argsL.length = sig.parameters.length)
    (hstack : g.stack = argsL.reverse ++ rest) (hW : 2 * g.monitorRoom + (rest.map fun v => v.category).sum ≤ W9) (hdg : decode c.code g.pc = .ok (.invokestatic index, 3))
    (hpre : ∀ vm₁, s.WarmedH vm₁ → Pre ⟨T.setVm vm₁, locs, cells, slots⟩ argsL.toArray) :
    (∃ (v : Option Value) (vm₁ : Vm) (B : Pt), s.WarmedH vm₁ ∧ Stand p l e R s m args below meth c B.U B.locs B.cells B.slots ∧ Post ⟨T.setVm vm₁, locs, cells, slots⟩ argsL.toArray v B ∧
      ∀ target, Steps p.tables e below (B.U.setTop { g with pc := g.pc + 3, stack := v.toList ++ rest }) target → Steps p.tables e below (T.setTop g) target) ∨
    (∃ (q : Addr) (vm₁ : Vm) (B : Pt), s.WarmedH vm₁ ∧ Stand p l e R s m args below meth c B.U B.locs B.cells B.slots ∧ PostX ⟨T.setVm vm₁, locs, cells, slots⟩ argsL.toArray q B ∧
      Steps p.tables e below (T.setTop g) ((B.U.setTop { g with stack := rest }).pushFrame (.throwing q))) := by
  obtain ⟨mk, hnamed⟩ := Cond.code_named hcode
  obtain ⟨methM, cM, hmethM, -, -, -, -, -, -, hsigM⟩ := Cond.code_spec hnamed hcode
  have hstatic : methM.isStatic = true := Cond.static_spec hnamed hmethM hstat
  obtain ⟨kP, hkP, -⟩ := className_of_methodNamed hnamed
  have hinitP : kP.init = .initialized := Cond.initialized_spec (findClass_of_methodNamed hnamed) hkP hinit
  obtain ⟨vm₁, X₁, hstep₁⟩ := X.invokestatic hexec hown hlink hnamed hmethM hstatic hkP hinitP hy (g := g) hg (argsL := argsL) (rest := rest) (hlen _ hsigM) hstack hdg
  rcases hK m meth c ⟨T.setVm vm₁, locs, cells, slots⟩ { g with stack := rest } (.invokestatic index) mk argsL.toArray X₁ hg hsize hdg hW (X₁.named hnamed) (hpre vm₁ X₁.warmed) with ⟨v, B, X', hpost, hsteps⟩ | ⟨q, B, X', hpost, hsteps⟩
  · exact Or.inl ⟨v, vm₁, B, X₁.warmed, X', hpost, fun target h => hstep₁ _ fun acts => by rw [doInvoke_state]; exact hsteps.trans h⟩
  · exact Or.inr ⟨q, vm₁, B, X₁.warmed, X', hpost, hstep₁ _ fun acts => by rw [doInvoke_state]; exact hsteps⟩
end Calls
theorem vx_cls {s : State} {T : State} {vm₁ : Vm} {E : String} {k : ClassId} (hW : s.WarmedH vm₁) (h : (T.setVm vm₁).vm.findClass E = some k) : s.vm.findClass E = some k := by
  have h1 : vm₁.findClass E = some k := h
  rw [hW.alike.findClass] at h1
  exact h1
/-- the method's frame g, with q thrown over it -/
def vx_W (p : Program) (l : Launch) (e : Env) (R : Room) (s : State) (m : MethodId) (args : Array Value) (below : List Frame) (meth : Method) (c : Code) (H : Heap) (locs : List Loc) (cells slots : Nat) (Q : State → Prop) (g : JFrame) (q : Addr) : Prop :=
  ∀ T : State, T.heap = H → Stand p l e R s m args below meth c T locs cells slots → ∃ t, Steps p.tables e below ((T.setTop g).pushFrame (.throwing q)) t ∧ Q t
def vx_Run (p : Program) (l : Launch) (e : Env) (R : Room) (s : State) (m : MethodId) (args : Array Value) (below : List Frame) (meth : Method) (c : Code) (H : Heap) (locs : List Loc) (cells slots mc ms : Nat) (g : JFrame) (rest : List Value) (Qa : State → Outcome → State → Prop) (XC : String → State → State → Prop) (free : Addr → Prop) : Prop :=
  ∀ T : State, T.heap = H → Stand p l e R s m args below meth c T locs cells slots →
    (∃ (v : Option Value) (st₀ t T' : State) (L : List Loc), st₀.heap = H ∧ Stand p l e R s m args below meth c T' (locs ++ L) (cells + mc) (slots + ms) ∧ (∀ q ∈ L, free q.base) ∧ T'.heap = t.heap ∧ T'.vm = t.vm ∧ Qa st₀ (.returned v) t ∧
      Goes p e below T g T' { g with pc := g.pc + 3, stack := v.toList ++ rest }) ∨
    (∃ (q : Addr) (st₀ t T' : State) (L : List Loc) (E : String) (ce : Cell), st₀.heap = H ∧ Stand p l e R s m args below meth c T' (locs ++ L) (cells + mc) (slots + ms) ∧ (∀ z ∈ L, free z.base) ∧ T'.heap = t.heap ∧ T'.vm = t.vm ∧ XC E st₀ t ∧ t.heap[q]? = some ce ∧ ce.vm = .none ∧ s.vm.findClass E = some ce.cls ∧
      Steps p.tables e below (T.setTop g) ((T'.setTop { g with stack := rest }).pushFrame (.throwing q)))
def vx_X {S : Type} (px : S → Prop) (B : String → S → State → Prop) (A : Nat → Prop) : String → State → State → Prop := fun E st t => ∃ u : S, px u ∧ B E u t ∧ va_F A st t
section Runs
variable {p : Program} {l : Launch} {e : Env} {R : Room} {s : State} {m : MethodId} {args : Array Value} {below : List Frame} {meth : Method} {c : Code} {H : Heap} {locs : List Loc} {cells slots : Nat}
variable {y : MethodName} {bytes cc : ByteArray} {maxL nL mc ms n index : Nat} {ret : Option FieldType} {ws : List Cond} {rm : Room} {Pc : Array Value → State → Prop} {Qc : Array Value → State → Outcome → State → Prop} {XC : String → State → State → Prop} {free : Addr → Prop} {Ts : List Cond} {own C : String} {b : Addr} {As rest : List Value} {g : JFrame}
theorem vx_callBack (cb : CallB R s args own index y bytes maxL ret ws rm mc ms n) (hM : vx_Met l y ws rm Pc Qc XC mc ms free) (hbl : FrameBlind Pc) : vx_Back l R p e below s args y 3 8 (PreOf R mc ms Pc) (PostOf Qc mc ms free) (vx_Post XC mc ms free) := by
  obtain ⟨hrc, hrs, hfr, hlo, hws, hcw, -, hini, -⟩ := cb
  exact vx_back (bytes := bytes) (maxL := maxL) (ret := ret) hM hbl hrc hrs hfr hlo hws hcw (fun a' U hW => word_at hW (Or.inl (by first | rfl | simp [Cond.onTables, Cond.keeps, Cond.steady])) hini)
theorem vx_runV (S : CallFix p m c cc nL s args Ts own) (hM : vx_Met l y ws rm Pc Qc XC mc ms free) (cw : CallW R s args own C index y bytes maxL ret ws rm mc ms n) (hp : PreV s H C b Pc As)
    (hg : g.method = m) (hn : As.length = n) (hsize : g.locals.size = nL) (hstack : g.stack = As.reverse ++ .ref b :: rest) (hW : 2 * g.monitorRoom + (rest.map fun v => v.category).sum ≤ 8) (hdg : decode cc g.pc = .ok (.invokevirtual index, 3)) (hf : cells + mc ≤ R.cells ∧ slots + ms ≤ R.slots) :
    vx_Run p l e R s m args below meth c H locs cells slots mc ms g rest (Qc (Value.ref b :: As).toArray) XC free := by
  have hK : vx_Back l R p e below s args y 3 8 (PreOf R mc ms Pc) (PostOf Qc mc ms free) (vx_Post XC mc ms free) := vx_callBack cw.1 hM hp.1
  obtain ⟨⟨-, -, -, -, -, -, hcode, -, hy, hlen, hl⟩, hin, hse⟩ := cw
  obtain ⟨hx, hb, hml, ho, -⟩ := S
  obtain ⟨-, ⟨cellB, hcB, hoB, hclB⟩, hPc⟩ := hp
  intro T hT X
  rcases vx_callV X hx (C := C) (bytes := bytes) (maxL := maxL) (ret := ret) ho hl hin hse hcode hy hK (by rw [hT]; exact hcB) hoB hclB hg (hsize.trans hml.symm) (argsL := As) (rest := rest) (fun sig h => hn.trans (hlen sig h)) hstack hW (by rw [hb]; exact hdg)
    (fun vm₁ hW₁ => ⟨hf.1, hf.2, hPc (T.setVm vm₁) hT hW₁⟩) with ⟨v, vm₁, ⟨U', l2, c2, s2⟩, hW₁, X', ⟨g', mk, t, L, e1, e2, hq, h1, hL, h2, h3⟩, st⟩ | ⟨q, vm₁, ⟨U', l2, c2, s2⟩, hW₁, X', ⟨g', mk, t, L, E, ce, e1, e2, hq, hce, hcv, hcl, h1, hL, h2, h3⟩, st⟩
  · dsimp only [Pt.U, Pt.locs, Pt.cells, Pt.slots] at X' e1 e2 h1 h2 h3 st
    subst h1; subst h2; subst h3
    exact Or.inl ⟨v, (T.setVm vm₁).calling g' mk (Value.ref b :: As).toArray, t, U', L, hT, X', hL, e1, e2, hq, st⟩
  · dsimp only [Pt.U, Pt.locs, Pt.cells, Pt.slots] at X' e1 e2 h1 h2 h3 st hcl
    subst h1; subst h2; subst h3
    exact Or.inr ⟨q, (T.setVm vm₁).calling g' mk (Value.ref b :: As).toArray, t, U', L, E, ce, hT, X', hL, e1, e2, hq, hce, hcv, vx_cls hW₁ hcl, st⟩
theorem vx_runS (S : CallFix p m c cc nL s args Ts own) (hM : vx_Met l y ws rm Pc Qc XC mc ms free) (cw : CallB R s args own index y bytes maxL ret ws rm mc ms n ∧ (Cond.static y).before args s = true) (hp : PreS s H Pc As)
    (hg : g.method = m) (hn : As.length = n) (hsize : g.locals.size = nL) (hstack : g.stack = As.reverse ++ rest) (hW : 2 * g.monitorRoom + (rest.map fun v => v.category).sum ≤ 8) (hdg : decode cc g.pc = .ok (.invokestatic index, 3)) (hf : cells + mc ≤ R.cells ∧ slots + ms ≤ R.slots) :
    vx_Run p l e R s m args below meth c H locs cells slots mc ms g rest (Qc As.toArray) XC free := by
  have hK : vx_Back l R p e below s args y 3 8 (PreOf R mc ms Pc) (PostOf Qc mc ms free) (vx_Post XC mc ms free) := vx_callBack cw.1 hM hp.1
  obtain ⟨⟨-, -, -, -, -, -, hcode, hini, hy, hlen, hl⟩, hstt⟩ := cw
  obtain ⟨hx, hb, hml, ho, -⟩ := S
  intro T hT X
  rcases vx_callS X hx (bytes := bytes) (maxL := maxL) (ret := ret) ho hl hstt hini hcode hy hK hg (hsize.trans hml.symm) (argsL := As) (rest := rest) (fun sig h => hn.trans (hlen sig h)) hstack hW (by rw [hb]; exact hdg)
    (fun vm₁ hW₁ => ⟨hf.1, hf.2, hp.2 (T.setVm vm₁) hT hW₁⟩) with ⟨v, vm₁, ⟨U', l2, c2, s2⟩, hW₁, X', ⟨g', mk, t, L, e1, e2, hq, h1, hL, h2, h3⟩, st⟩ | ⟨q, vm₁, ⟨U', l2, c2, s2⟩, hW₁, X', ⟨g', mk, t, L, E, ce, e1, e2, hq, hce, hcv, hcl, h1, hL, h2, h3⟩, st⟩
  · dsimp only [Pt.U, Pt.locs, Pt.cells, Pt.slots] at X' e1 e2 h1 h2 h3 st
    subst h1; subst h2; subst h3
    exact Or.inl ⟨v, (T.setVm vm₁).calling g' mk As.toArray, t, U', L, hT, X', hL, e1, e2, hq, st⟩
  · dsimp only [Pt.U, Pt.locs, Pt.cells, Pt.slots] at X' e1 e2 h1 h2 h3 st hcl
    subst h1; subst h2; subst h3
    exact Or.inr ⟨q, (T.setVm vm₁).calling g' mk As.toArray, t, U', L, E, ce, hT, X', hL, e1, e2, hq, hce, hcv, vx_cls hW₁ hcl, st⟩
end Runs
section Rows
variable {p : Program} {l : Launch} {e : Env} {R : Room} {s : State} {m : MethodId} {args : Array Value} {below : List Frame} {meth : Method} {c : Code} {H : Heap} {locs : List Loc} {cells slots : Nat} {Q : State → Prop}
variable {mc ms : Nat} {free : Addr → Prop} {A0 A1 : Nat → Prop} {H0 : Heap} {a : Array Value} {pc : Nat} {ls : Array Slot} {st0 rest : List Value}
theorem vx_keep {st₀ t T' : State} {L : List Loc} (h0 : st₀.heap = H) (e1 : T'.heap = t.heap) (hS : va_S A0 H0 H locs) (hA : ∀ q, q < H.size → A1 q → A0 q) (hf : ∀ q, free q → A0 q) (hL : ∀ q ∈ L, free q.base) (hF : va_F A1 st₀ t) :
    H.size ≤ T'.heap.size ∧ (∀ q : Nat, q < H.size → ¬ A1 q → T'.heap[q]? = H[q]?) ∧ va_S A0 H0 T'.heap (locs ++ L) := by
  obtain ⟨hz, hk⟩ := hF
  rw [h0] at hz hk
  exact ⟨by rw [e1]; exact hz, fun q h1 h2 => by rw [e1]; exact hk q h1 h2,
    ⟨Nat.le_trans hS.1 (by rw [e1]; exact hz), fun q h1 h2 => by rw [e1, hk q (Nat.lt_of_lt_of_le h1 hS.1) (fun z => h2 (hA q (Nat.lt_of_lt_of_le h1 hS.1) z))]; exact hS.2.1 q h1 h2, fun q hq => by
      rcases List.mem_append.mp hq with h | h
      · exact hS.2.2 q h
      · exact hf _ (hL q h)⟩⟩
theorem vx_calli {S SX : Type} {post : Int32 → S → Prop} {px : SX → Prop} {B : S → State → Prop} {BX : String → SX → State → Prop} {AX : Nat → Prop} (hr : vx_Run p l e R s m args below meth c H locs cells slots mc ms (F0 m pc ls st0) rest (va_Qi post B A1 a) (vx_X px BX AX) free) (hS : va_S A0 H0 H locs) (hA : ∀ q, q < H.size → A1 q → A0 q) (hf : ∀ q, free q → A0 q) (hAX : ∀ q, q < H.size → AX q → A0 q)
    (kx : ∀ (E : String) (ce : Cell) (q9 : Addr) (u : SX) (t : State) (H1 : Heap) (locs1 : List Loc), t.heap = H1 → s.vm.Alike t.vm → px u → BX E u t → H.size ≤ H1.size → (∀ q : Nat, q < H.size → ¬ AX q → H1[q]? = H[q]?) → va_S A0 H0 H1 locs1 → H1[q9]? = some ce → ce.vm = .none → s.vm.findClass E = some ce.cls → vx_W p l e R s m args below meth c H1 locs1 (cells + mc) (slots + ms) Q (F0 m pc ls rest) q9)
    (kk : ∀ (r : Int32) (u : S) (t : State) (H1 : Heap) (locs1 : List Loc), t.heap = H1 → s.vm.Alike t.vm → post r u → B u t → H.size ≤ H1.size → (∀ q : Nat, q < H.size → ¬ A1 q → H1[q]? = H[q]?) → va_S A0 H0 H1 locs1 → W p l e R s m args below meth c H1 locs1 (cells + mc) (slots + ms) Q (F0 m (pc + 3) ls (.int r :: rest))) : W p l e R s m args below meth c H locs cells slots Q (F0 m pc ls st0) := by
  intro T hT X
  rcases hr T hT X with ⟨v, st₀, t, T', L, h0, X', hL, e1, e2, ⟨⟨r, u, hv, hp, hb⟩, hF⟩, st⟩ | ⟨q, st₀, t, T', L, E, ce, h0, X', hL, e1, e2, ⟨u, hp, hb, hF⟩, hce, hcv, hcl, st⟩
  · cases hv
    obtain ⟨k1, k2, k3⟩ := vx_keep h0 e1 hS hA hf hL hF
    obtain ⟨t2, a1, b1⟩ := kk r u t T'.heap (locs ++ L) e1.symm (by rw [← e2]; exact X'.warmed.alike) hp hb k1 k2 k3 T' rfl X'
    exact ⟨t2, st t2 a1, b1⟩
  · obtain ⟨k1, k2, k3⟩ := vx_keep h0 e1 hS hAX hf hL hF
    obtain ⟨t2, a1, b1⟩ := kx E ce q u t T'.heap (locs ++ L) e1.symm (by rw [← e2]; exact X'.warmed.alike) hp hb k1 k2 k3 (by rw [e1]; exact hce) hcv hcl T' rfl X'
    exact ⟨t2, st.trans a1, b1⟩
theorem vx_calll {S SX : Type} {post : Int64 → S → Prop} {px : SX → Prop} {B : S → State → Prop} {BX : String → SX → State → Prop} {AX : Nat → Prop} (hr : vx_Run p l e R s m args below meth c H locs cells slots mc ms (F0 m pc ls st0) rest (va_Ql post B A1 a) (vx_X px BX AX) free) (hS : va_S A0 H0 H locs) (hA : ∀ q, q < H.size → A1 q → A0 q) (hf : ∀ q, free q → A0 q) (hAX : ∀ q, q < H.size → AX q → A0 q)
    (kx : ∀ (E : String) (ce : Cell) (q9 : Addr) (u : SX) (t : State) (H1 : Heap) (locs1 : List Loc), t.heap = H1 → s.vm.Alike t.vm → px u → BX E u t → H.size ≤ H1.size → (∀ q : Nat, q < H.size → ¬ AX q → H1[q]? = H[q]?) → va_S A0 H0 H1 locs1 → H1[q9]? = some ce → ce.vm = .none → s.vm.findClass E = some ce.cls → vx_W p l e R s m args below meth c H1 locs1 (cells + mc) (slots + ms) Q (F0 m pc ls rest) q9)
    (kk : ∀ (r : Int64) (u : S) (t : State) (H1 : Heap) (locs1 : List Loc), t.heap = H1 → s.vm.Alike t.vm → post r u → B u t → H.size ≤ H1.size → (∀ q : Nat, q < H.size → ¬ A1 q → H1[q]? = H[q]?) → va_S A0 H0 H1 locs1 → W p l e R s m args below meth c H1 locs1 (cells + mc) (slots + ms) Q (F0 m (pc + 3) ls (.long r :: rest))) : W p l e R s m args below meth c H locs cells slots Q (F0 m pc ls st0) := by
  intro T hT X
  rcases hr T hT X with ⟨v, st₀, t, T', L, h0, X', hL, e1, e2, ⟨⟨r, u, hv, hp, hb⟩, hF⟩, st⟩ | ⟨q, st₀, t, T', L, E, ce, h0, X', hL, e1, e2, ⟨u, hp, hb, hF⟩, hce, hcv, hcl, st⟩
  · cases hv
    obtain ⟨k1, k2, k3⟩ := vx_keep h0 e1 hS hA hf hL hF
    obtain ⟨t2, a1, b1⟩ := kk r u t T'.heap (locs ++ L) e1.symm (by rw [← e2]; exact X'.warmed.alike) hp hb k1 k2 k3 T' rfl X'
    exact ⟨t2, st t2 a1, b1⟩
  · obtain ⟨k1, k2, k3⟩ := vx_keep h0 e1 hS hAX hf hL hF
    obtain ⟨t2, a1, b1⟩ := kx E ce q u t T'.heap (locs ++ L) e1.symm (by rw [← e2]; exact X'.warmed.alike) hp hb k1 k2 k3 (by rw [e1]; exact hce) hcv hcl T' rfl X'
    exact ⟨t2, st.trans a1, b1⟩
theorem vx_callf {S SX : Type} {post : UInt32 → S → Prop} {px : SX → Prop} {B : S → State → Prop} {BX : String → SX → State → Prop} {AX : Nat → Prop} (hr : vx_Run p l e R s m args below meth c H locs cells slots mc ms (F0 m pc ls st0) rest (va_Qf post B A1 a) (vx_X px BX AX) free) (hS : va_S A0 H0 H locs) (hA : ∀ q, q < H.size → A1 q → A0 q) (hf : ∀ q, free q → A0 q) (hAX : ∀ q, q < H.size → AX q → A0 q)
    (kx : ∀ (E : String) (ce : Cell) (q9 : Addr) (u : SX) (t : State) (H1 : Heap) (locs1 : List Loc), t.heap = H1 → s.vm.Alike t.vm → px u → BX E u t → H.size ≤ H1.size → (∀ q : Nat, q < H.size → ¬ AX q → H1[q]? = H[q]?) → va_S A0 H0 H1 locs1 → H1[q9]? = some ce → ce.vm = .none → s.vm.findClass E = some ce.cls → vx_W p l e R s m args below meth c H1 locs1 (cells + mc) (slots + ms) Q (F0 m pc ls rest) q9)
    (kk : ∀ (r : UInt32) (u : S) (t : State) (H1 : Heap) (locs1 : List Loc), t.heap = H1 → s.vm.Alike t.vm → post r u → B u t → H.size ≤ H1.size → (∀ q : Nat, q < H.size → ¬ A1 q → H1[q]? = H[q]?) → va_S A0 H0 H1 locs1 → W p l e R s m args below meth c H1 locs1 (cells + mc) (slots + ms) Q (F0 m (pc + 3) ls (.float r :: rest))) : W p l e R s m args below meth c H locs cells slots Q (F0 m pc ls st0) := by
  intro T hT X
  rcases hr T hT X with ⟨v, st₀, t, T', L, h0, X', hL, e1, e2, ⟨⟨r, u, hv, hp, hb⟩, hF⟩, st⟩ | ⟨q, st₀, t, T', L, E, ce, h0, X', hL, e1, e2, ⟨u, hp, hb, hF⟩, hce, hcv, hcl, st⟩
  · cases hv
    obtain ⟨k1, k2, k3⟩ := vx_keep h0 e1 hS hA hf hL hF
    obtain ⟨t2, a1, b1⟩ := kk r u t T'.heap (locs ++ L) e1.symm (by rw [← e2]; exact X'.warmed.alike) hp hb k1 k2 k3 T' rfl X'
    exact ⟨t2, st t2 a1, b1⟩
  · obtain ⟨k1, k2, k3⟩ := vx_keep h0 e1 hS hAX hf hL hF
    obtain ⟨t2, a1, b1⟩ := kx E ce q u t T'.heap (locs ++ L) e1.symm (by rw [← e2]; exact X'.warmed.alike) hp hb k1 k2 k3 (by rw [e1]; exact hce) hcv hcl T' rfl X'
    exact ⟨t2, st.trans a1, b1⟩
theorem vx_calld {S SX : Type} {post : UInt64 → S → Prop} {px : SX → Prop} {B : S → State → Prop} {BX : String → SX → State → Prop} {AX : Nat → Prop} (hr : vx_Run p l e R s m args below meth c H locs cells slots mc ms (F0 m pc ls st0) rest (va_Qd post B A1 a) (vx_X px BX AX) free) (hS : va_S A0 H0 H locs) (hA : ∀ q, q < H.size → A1 q → A0 q) (hf : ∀ q, free q → A0 q) (hAX : ∀ q, q < H.size → AX q → A0 q)
    (kx : ∀ (E : String) (ce : Cell) (q9 : Addr) (u : SX) (t : State) (H1 : Heap) (locs1 : List Loc), t.heap = H1 → s.vm.Alike t.vm → px u → BX E u t → H.size ≤ H1.size → (∀ q : Nat, q < H.size → ¬ AX q → H1[q]? = H[q]?) → va_S A0 H0 H1 locs1 → H1[q9]? = some ce → ce.vm = .none → s.vm.findClass E = some ce.cls → vx_W p l e R s m args below meth c H1 locs1 (cells + mc) (slots + ms) Q (F0 m pc ls rest) q9)
    (kk : ∀ (r : UInt64) (u : S) (t : State) (H1 : Heap) (locs1 : List Loc), t.heap = H1 → s.vm.Alike t.vm → post r u → B u t → H.size ≤ H1.size → (∀ q : Nat, q < H.size → ¬ A1 q → H1[q]? = H[q]?) → va_S A0 H0 H1 locs1 → W p l e R s m args below meth c H1 locs1 (cells + mc) (slots + ms) Q (F0 m (pc + 3) ls (.double r :: rest))) : W p l e R s m args below meth c H locs cells slots Q (F0 m pc ls st0) := by
  intro T hT X
  rcases hr T hT X with ⟨v, st₀, t, T', L, h0, X', hL, e1, e2, ⟨⟨r, u, hv, hp, hb⟩, hF⟩, st⟩ | ⟨q, st₀, t, T', L, E, ce, h0, X', hL, e1, e2, ⟨u, hp, hb, hF⟩, hce, hcv, hcl, st⟩
  · cases hv
    obtain ⟨k1, k2, k3⟩ := vx_keep h0 e1 hS hA hf hL hF
    obtain ⟨t2, a1, b1⟩ := kk r u t T'.heap (locs ++ L) e1.symm (by rw [← e2]; exact X'.warmed.alike) hp hb k1 k2 k3 T' rfl X'
    exact ⟨t2, st t2 a1, b1⟩
  · obtain ⟨k1, k2, k3⟩ := vx_keep h0 e1 hS hAX hf hL hF
    obtain ⟨t2, a1, b1⟩ := kx E ce q u t T'.heap (locs ++ L) e1.symm (by rw [← e2]; exact X'.warmed.alike) hp hb k1 k2 k3 (by rw [e1]; exact hce) hcv hcl T' rfl X'
    exact ⟨t2, st.trans a1, b1⟩
theorem vx_callv {S SX : Type} {post : S → Prop} {px : SX → Prop} {B : S → State → Prop} {BX : String → SX → State → Prop} {AX : Nat → Prop} (hr : vx_Run p l e R s m args below meth c H locs cells slots mc ms (F0 m pc ls st0) rest (va_Qv post B A1 a) (vx_X px BX AX) free) (hS : va_S A0 H0 H locs) (hA : ∀ q, q < H.size → A1 q → A0 q) (hf : ∀ q, free q → A0 q) (hAX : ∀ q, q < H.size → AX q → A0 q)
    (kx : ∀ (E : String) (ce : Cell) (q9 : Addr) (u : SX) (t : State) (H1 : Heap) (locs1 : List Loc), t.heap = H1 → s.vm.Alike t.vm → px u → BX E u t → H.size ≤ H1.size → (∀ q : Nat, q < H.size → ¬ AX q → H1[q]? = H[q]?) → va_S A0 H0 H1 locs1 → H1[q9]? = some ce → ce.vm = .none → s.vm.findClass E = some ce.cls → vx_W p l e R s m args below meth c H1 locs1 (cells + mc) (slots + ms) Q (F0 m pc ls rest) q9)
    (kk : ∀ (u : S) (t : State) (H1 : Heap) (locs1 : List Loc), t.heap = H1 → s.vm.Alike t.vm → post u → B u t → H.size ≤ H1.size → (∀ q : Nat, q < H.size → ¬ A1 q → H1[q]? = H[q]?) → va_S A0 H0 H1 locs1 → W p l e R s m args below meth c H1 locs1 (cells + mc) (slots + ms) Q (F0 m (pc + 3) ls (rest))) : W p l e R s m args below meth c H locs cells slots Q (F0 m pc ls st0) := by
  intro T hT X
  rcases hr T hT X with ⟨v, st₀, t, T', L, h0, X', hL, e1, e2, ⟨⟨u, hv, hp, hb⟩, hF⟩, st⟩ | ⟨q, st₀, t, T', L, E, ce, h0, X', hL, e1, e2, ⟨u, hp, hb, hF⟩, hce, hcv, hcl, st⟩
  · cases hv
    obtain ⟨k1, k2, k3⟩ := vx_keep h0 e1 hS hA hf hL hF
    obtain ⟨t2, a1, b1⟩ := kk u t T'.heap (locs ++ L) e1.symm (by rw [← e2]; exact X'.warmed.alike) hp hb k1 k2 k3 T' rfl X'
    exact ⟨t2, st t2 a1, b1⟩
  · obtain ⟨k1, k2, k3⟩ := vx_keep h0 e1 hS hAX hf hL hF
    obtain ⟨t2, a1, b1⟩ := kx E ce q u t T'.heap (locs ++ L) e1.symm (by rw [← e2]; exact X'.warmed.alike) hp hb k1 k2 k3 (by rw [e1]; exact hce) hcv hcl T' rfl X'
    exact ⟨t2, st.trans a1, b1⟩
/-- caught by the row x of this method's table; the rows ahead don't take it -/
theorem vx_catch {own name : String} {E : String} {ce : Cell} {q : Addr} (hown : s.vm.findClass own = some m.cls) (pre : List ExceptionTableEntry) (x : ExceptionTableEntry) (suf : List ExceptionTableEntry) (hsplit : c.exceptionTable.toList = pre ++ x :: suf)
    (hpass : ∀ z ∈ pre, covers z pc = false ∨ (z.catchType ≠ 0 ∧ ∃ nm : String, (Cond.classLink own z.catchType nm).before args s = true ∧ va_Nc E nm s)) (hx : covers x pc = true) (h0 : x.catchType ≠ 0)
    (hlink : (Cond.classLink own x.catchType name).before args s = true) (hcast : (Cond.castable E name).before args s = true) (hcell : H[q]? = some ce) (hv : ce.vm = .none) (hcl : s.vm.findClass E = some ce.cls)
    (kk : W p l e R s m args below meth c H locs cells slots Q (F0 m x.handlerPc ls [.ref q])) : vx_W p l e R s m args below meth c H locs cells slots Q (F0 m pc ls rest) q := by
  intro T hT X
  have hpl : e.platform.magicAccessors = ({} : Platform).magicAccessors := by rw [X.admits.platform]
  obtain ⟨c3, c4, hc3, hc4, hasg⟩ := Cond.castable_spec hcast
  cases Option.some.inj (hc3.symm.trans hcl)
  obtain ⟨c5, hc5, hcl5⟩ := Cond.classLink_spec hown hlink e.platform hpl
  cases Option.some.inj (hc4.symm.trans hc5)
  obtain ⟨vm', X', st⟩ := X.thenCaughtThrough q (g := F0 m pc ls rest) rfl (Steps.refl _) (by rw [hT]; exact hcell) (by rw [hv]; rfl) (by obtain ⟨k9, h9, -⟩ := Vm.findClass_spec hcl; exact ⟨k9, h9⟩) pre x suf hsplit
    (fun z hz => by
      rcases hpass z hz with h | ⟨hz0, nm, hl1, hn1⟩
      · exact Or.inl h
      · obtain ⟨c6, hc6, hcl6⟩ := Cond.classLink_spec hown hl1 e.platform hpl
        obtain ⟨a8, b8, h1, h2, h3⟩ := hn1
        cases Option.some.inj (h1.symm.trans hcl)
        cases Option.some.inj (h2.symm.trans hc6)
        exact Or.inr ⟨hz0, _, hcl6, h3⟩) hx (Or.inr ⟨h0, c4, hcl5, hasg⟩)
  obtain ⟨t, a1, b1⟩ := kk (T.setVm vm') hT X'
  exact ⟨t, st.trans a1, b1⟩
end Rows
section Ends
variable {p : Program} {l : Launch} {e : Env} {R : Room} {s : State} {m : MethodId} {args : Array Value} {below : List Frame} {meth : Method} {c : Code} {H : Heap} {locs : List Loc} {cells slots : Nat} {Q : State → Prop}
variable {mc ms : Nat} {free : Addr → Prop} {A0 A1 : Nat → Prop} {H0 : Heap} {a : Array Value} {ls : Array Slot} {st0 rest : List Value}
variable {Qc : Array Value → State → Outcome → State → Prop} {XC : String → State → State → Prop}
/-- what a body that may throw owes at its end -/
def vx_MQ (below : List Frame) (Qc : Array Value → State → Outcome → State → Prop) (XC : String → State → State → Prop) (a : Array Value) (s : State) (mc ms : Nat) (free : Addr → Prop) : State → Prop := fun t =>
  ∃ o, t.status = .running ∧ Ended t below o ∧ vx_Q Qc XC mc ms free a s o t
theorem vx_ret {g : JFrame} {mc ms : Nat} (k : W p l e R s m args below meth c H locs cells slots (MQ below Qc args s mc ms free) g) : W p l e R s m args below meth c H locs cells slots (vx_MQ below Qc XC args s mc ms free) g := by
  intro T hT X
  obtain ⟨t, a1, o, b1, b2, b3, b4⟩ := k T hT X
  exact ⟨t, a1, o, b1, b2, Or.inl ⟨b3, b4⟩⟩
/-- not caught here: it goes on to the caller -/
theorem vx_widen {g : JFrame} {q : Addr} {k n : Nat} (h1 : cells ≤ k) (h2 : slots ≤ n) (kk : vx_W p l e R s m args below meth c H locs k n Q g q) : vx_W p l e R s m args below meth c H locs cells slots Q g q := fun T hT X => kk T hT (stand_widen X h1 h2)
theorem vx_out {pc : Nat} {E : String} {ce : Cell} {q : Addr} {mc ms : Nat} (hout : ∀ x ∈ c.exceptionTable.toList, covers x pc = false) (hlocks : meth.locks = false) (hcell : H[q]? = some ce) (hv : ce.vm = .none) (hcl : s.vm.findClass E = some ce.cls)
    (hx : ∀ t : State, t.heap = H → s.vm.Alike t.vm → XC E s t) (hf : ∀ z ∈ locs, free z.base) (hc : cells ≤ mc) (hs : slots ≤ ms) :
    vx_W p l e R s m args below meth c H locs cells slots (vx_MQ below Qc XC args s mc ms free) (F0 m pc ls rest) q := by
  intro T hT X
  obtain ⟨st1, hrun, hend, hW, hsm⟩ := X.leaveThrown q (g := F0 m pc ls rest) rfl rfl rfl hout hlocks
  have hcell9 : (T.setFrames (.throwing q :: below)).heap[q]? = some ce := by
    show T.heap[q]? = some ce
    rw [hT]; exact hcell
  exact ⟨_, st1, .threw q, hrun, hend, Or.inr ⟨q, rfl, E, ce, locs, hx _ hT hW.alike, hcell9, hv, hcl, hW, hsm.mono hc hs, hf⟩⟩
theorem vx_frame {U : State} {k n : Nat} (h : s.sameButNew ({ U with vm := s.vm } : State) locs k n) : s.heap.size ≤ U.heap.size ∧ ∀ q : Nat, q < s.heap.size → (∀ z ∈ locs, z.base ≠ q) → U.heap[q]? = s.heap[q]? := by
  obtain ⟨-, h2, -, -, -, h6⟩ := h
  refine ⟨h2, fun q hq hz => ?_⟩
  obtain ⟨c9, e1, e2, e3, e4⟩ := h6 q _ (Array.getElem?_eq_getElem hq)
  have hs : c9.slots = (s.heap[q]).slots := Array.ext_getElem? fun i => e4 i fun hm => hz _ hm rfl
  have h9 : c9 = s.heap[q] := by
    rw [hs] at e2
    exact e2
  have e5 : U.heap[q]? = some c9 := e1
  rw [e5, h9, Array.getElem?_eq_getElem hq]
/-- the words of a throw but the four that speak of the heap -/
def vx_no (w : Cond) : Bool := decide (w ≠ .isRef (.static Bundle.tN "UNASSIGNED_STACK" Bundle.steD)) && decide (w ≠ .isRef (.static Bundle.tN "SUPPRESSED_SENTINEL" Bundle.listD)) && decide (w ≠ .laysStatic Bundle.tN "UNASSIGNED_STACK" Bundle.steD) && decide (w ≠ .laysStatic Bundle.tN "SUPPRESSED_SENTINEL" Bundle.listD)
def vx_at0 (own : String) (ic : Nat) (X : String) (names : List String) : List Cond := (Bundle.ownAtoms0 own ic X names).filter vx_no
def vx_atS (own : String) (ic : Nat) (X : String) (names : List String) : List Cond := (Bundle.ownAtoms own ic X names).filter vx_no
/-- a word that the tables alone decide, or a good one -/
def vx_ot (w : Cond) : Bool := w.onTables || goodWord w
theorem vx_ot_at {args a' : Array Value} {s U : State} {w : Cond} (hW : s.WarmedH U.vm) (hvm : s.vm = U.vm) (hg : vx_ot w = true) (h : w.before args s = true) : w.before a' U = true := by
  simp only [vx_ot, Bool.or_eq_true] at hg
  rcases hg with hg | hg
  · exact va_tabs hg hvm h
  · exact word_at hW (good_of_word hg) h
/-- a list's words: the good ones out of the method's own list, the others by premises of their own -/
theorem vx_hat {args : Array Value} {s : State} {L B : List Cond} (h1 : ∀ w ∈ L.filter goodWord, w.before args s = true) (h2 : ∀ w ∈ L.filter (fun w => !goodWord w), w ∈ B) (h3 : ∀ w ∈ B, w.before args s = true) : ∀ w ∈ L, w.before args s = true := by
  intro w hw
  by_cases g : goodWord w = true
  · exact h1 w (List.mem_filter.mpr ⟨hw, g⟩)
  · refine h3 w (h2 w (List.mem_filter.mpr ⟨hw, ?_⟩))
    show (!goodWord w) = true
    cases hgw : goodWord w
    · rfl
    · exact absurd hgw g
theorem vx_c {args : Array Value} {s : State} {w : Cond} {B : List Cond} (h : w.before args s = true) (t : ∀ w ∈ B, w.before args s = true) : ∀ w' ∈ w :: B, w'.before args s = true := fun w' h' => (List.mem_cons.mp h').elim (fun e => by rw [e]; exact h) (t w')
theorem vx_n {args : Array Value} {s : State} : ∀ w ∈ ([] : List Cond), w.before args s = true := fun _ h => nomatch h
theorem vx_own {args : Array Value} {s : State} {L : List Cond} (h1 : ∀ w ∈ L.filter vx_no, w.before args s = true)
    (hU : (Cond.isRef (.static Bundle.tN "UNASSIGNED_STACK" Bundle.steD)).before args s = true) (hN : (Cond.isRef (.static Bundle.tN "SUPPRESSED_SENTINEL" Bundle.listD)).before args s = true)
    (lU : (Cond.laysStatic Bundle.tN "UNASSIGNED_STACK" Bundle.steD).before args s = true) (lN : (Cond.laysStatic Bundle.tN "SUPPRESSED_SENTINEL" Bundle.listD).before args s = true) : ∀ w ∈ L, w.before args s = true := by
  intro w hw
  by_cases e1 : w = .isRef (.static Bundle.tN "UNASSIGNED_STACK" Bundle.steD)
  · rw [e1]; exact hU
  · by_cases e2 : w = .isRef (.static Bundle.tN "SUPPRESSED_SENTINEL" Bundle.listD)
    · rw [e2]; exact hN
    · by_cases e3 : w = .laysStatic Bundle.tN "UNASSIGNED_STACK" Bundle.steD
      · rw [e3]; exact lU
      · by_cases e4 : w = .laysStatic Bundle.tN "SUPPRESSED_SENTINEL" Bundle.listD
        · rw [e4]; exact lN
        · exact h1 w (List.mem_filter.mpr ⟨hw, by unfold vx_no; rw [decide_eq_true e1, decide_eq_true e2, decide_eq_true e3, decide_eq_true e4]; rfl⟩)
/-- where a static field lies, its class's statics cell in H -/
def vx_L (C n d : String) (A : Nat → Prop) (U : State) (H : Heap) : Prop := ∃ (c : ClassId) (k : Class) (i : Nat) (f : Field) (a : Nat) (cell : Cell), U.vm.findClass C = some c ∧ U.fieldFound? C n d = some (c, k, i, f) ∧ f.isStatic = true ∧ k.statics = some a ∧ H[a]? = some cell ∧ cell.vm.isStatics = true ∧ cell.cls = c ∧ f.slot < cell.slots.size ∧ k.staticTypes[f.slot]? = some f.type ∧ ¬ A a
theorem vx_L.moved {C n d : String} {A : Nat → Prop} {u U : State} {H : Heap} (hvm : u.vm.Alike U.vm) (h : vx_L C n d A u H) : vx_L C n d A U H := by
  obtain ⟨c, k, i, f, a, cell, h1, h2, h3, h4, h5, h6, h7, h8, h9, h10⟩ := h
  obtain ⟨k', hi', he⟩ := State.fieldFound?_setVm hvm h2
  exact ⟨c, k', i, f, a, cell, by rw [hvm.findClass]; exact h1, hi', h3, by rw [he]; exact h4, h5, h6, h7, h8, by rw [he]; exact h9, h10⟩
theorem vx_L.kept {C n d : String} {A : Nat → Prop} {U : State} {H H1 : Heap} (h : vx_L C n d A U H) (hq : ∀ a : Nat, a < H.size → ¬ A a → H1[a]? = H[a]?) : vx_L C n d A U H1 := by
  obtain ⟨c, k, i, f, a, cell, h1, h2, h3, h4, h5, h6, h7, h8, h9, h10⟩ := h
  exact ⟨c, k, i, f, a, cell, h1, h2, h3, h4, by rw [hq a (Array.getElem?_eq_some_iff.mp h5).1 h10]; exact h5, h6, h7, h8, h9, h10⟩
theorem vx_L.narrow {C n d : String} {A B : Nat → Prop} {U : State} {H : Heap} (h : vx_L C n d A U H) (hAB : ∀ q, B q → A q) : vx_L C n d B U H := by
  obtain ⟨c, k, i, f, a, cell, h1, h2, h3, h4, h5, h6, h7, h8, h9, h10⟩ := h
  exact ⟨c, k, i, f, a, cell, h1, h2, h3, h4, h5, h6, h7, h8, h9, fun z => h10 (hAB _ z)⟩
theorem vx_L.word {C n d : String} {A : Nat → Prop} {s : State} {args : Array Value} (h : vx_L C n d A s s.heap) : (Cond.laysStatic C n d).before args s = true := by
  obtain ⟨c, k, i, f, a, cell, h1, h2, h3, h4, h5, h6, h7, h8, h9, -⟩ := h
  show (Cond.laysStatic C n d).holds args s none s [] = true
  exact Cond.laysStatic_of h1 h2 h3 h4 h5 h6 h7 h8 h9
/-- .. and what it holds: null or some reference -/
def vx_Zq (C n d : String) (A : Nat → Prop) (U : State) (H : Heap) : Prop := va_Zq C n d A U H ∧ vx_L C n d A U H
theorem vx_Zq.moved {C n d : String} {A : Nat → Prop} {u U : State} {H : Heap} (hvm : u.vm.Alike U.vm) (h : vx_Zq C n d A u H) : vx_Zq C n d A U H := ⟨va_Zq.moved hvm h.1, vx_L.moved hvm h.2⟩
theorem vx_Zq.kept {C n d : String} {A : Nat → Prop} {U : State} {H H1 : Heap} (h : vx_Zq C n d A U H) (hq : ∀ a : Nat, a < H.size → ¬ A a → H1[a]? = H[a]?) : vx_Zq C n d A U H1 := ⟨va_Zq.kept h.1 hq, vx_L.kept h.2 hq⟩
theorem vx_Zq.narrow {C n d : String} {A B : Nat → Prop} {U : State} {H : Heap} (h : vx_Zq C n d A U H) (hAB : ∀ q, B q → A q) : vx_Zq C n d B U H := ⟨va_Zq.narrow h.1 hAB, vx_L.narrow h.2 hAB⟩
theorem vx_Zqof {args : Array Value} {s : State} {C n d : String} {A : Nat → Prop} (hl : (Cond.laysStatic C n d).before args s = true) (hini : (Cond.initialized C).before args s = true) (h : (Cond.isRef (.static C n d)).before args s = true) (hA : ∀ a : Nat, a < s.heap.size → ¬ A a) : vx_Zq C n d A s s.heap := by
  refine ⟨va_Zqof hl hini h hA, ?_⟩
  obtain ⟨c, k, i, f, a, cell, h1, h2, h3, h4, h5, h6, h7, h8, h9⟩ := Cond.laysStatic_spec hl
  exact ⟨c, k, i, f, a, cell, h1, h2, h3, h4, h5, h6, h7, h8, h9, hA a (Array.getElem?_eq_some_iff.mp h5).1⟩
theorem vx_isRef {C n d : String} {v : Value} {A : Nat → Prop} {s : State} {args : Array Value} (h : va_Z C n d v A s s.heap) (hv : v.isRef = true) : (Cond.isRef (.static C n d)).before args s = true := by
  obtain ⟨cf, kf, fi, f, a, cell, h1, h2, h3, h4, h5, h6, h7, -⟩ := h
  have he : (Term.static C n d).eval args s none [] s = some v := by
    simp [Term.eval, State.fieldNamed?, h1, h2, h4, h5, h6, h7]
  simp only [Cond.before, Cond.holds, Cond.value, he]
  cases v <;> simp_all [Value.isRef]
theorem vx_isRefq {C n d : String} {A : Nat → Prop} {s : State} {args : Array Value} (h : va_Zq C n d A s s.heap) : (Cond.isRef (.static C n d)).before args s = true := by
  rcases h with h | ⟨t, h⟩
  · exact vx_isRef h rfl
  · exact vx_isRef h rfl
/-- the same frame, seen from here: as if the method were called anew in this heap -/
theorem vx_rebase {T : State} (X : Stand p l e R s m args below meth c T locs cells slots) {R' : Room} (hf : R'.frames ≤ R.frames) (hl : R'.locals ≤ R.locals) (hc : cells + R'.cells ≤ R.cells) (hs : slots + R'.slots ≤ R.slots) :
    Stand p l e R' ((T.setVm s.vm).setFrames (.invoking m args :: below)) m args below meth c T [] 0 0 := by
  have htop : (T.setVm s.vm).topJava?.isSome := X.here.top
  have hF : ((T.setVm s.vm).setFrames (.invoking m args :: below)).frames = .invoking m args :: below := State.frames_setFrames _ (State.cur_lt_of_top htop)
  obtain ⟨g₀, hg0⟩ := Option.isSome_iff_exists.mp htop
  obtain ⟨r, hr⟩ := State.topJava?_eq_some.mp hg0
  have hl9 : e.platform.stackLimits (T.setVm s.vm).me = e.platform.stackLimits s.me := X.limits
  have hb9 : (T.setVm s.vm).me.stackBytes = s.me.stackBytes := X.bytes
  refine ⟨X.admits, X.cas, X.clock, hF, ?_, X.hears, X.method, X.code, X.here, X.tail, X.warmed, ?_, ?_, ?_⟩
  · have h := X.room
    have hU : ((T.setVm s.vm).setFrames (.invoking m args :: below)).localsInUse = s.localsInUse := by
      rw [State.localsInUse_invoking hF (meth := meth) (c := c) X.method X.code, State.localsInUse_invoking X.frames X.method X.code]
    simp only [State.hasRoom, Bool.and_eq_true, decide_eq_true_eq] at h ⊢
    obtain ⟨⟨⟨⟨h1, h2, h3, h4, h5, h6⟩, h7⟩, h8⟩, h9⟩ := h
    rw [X.frames, List.length_cons] at h2 h3
    have q1 := X.heapSize
    have q2 := X.used
    simp only [hF, hU, List.length_cons, State.stackLimits_setFrames, State.stackBytes_setFrames, hl9, hb9]
    refine ⟨⟨⟨⟨by omega, by omega, by omega, by omega, by omega, h6⟩, ?_⟩, ?_⟩, X.book⟩
    · show T.heap.size + R'.cells ≤ e.platform.maxCells
      omega
    · show T.slotsUsed + R'.slots ≤ e.platform.maxSlots
      omega
  · rw [State.stackLimits_setFrames]; rfl
  · rw [State.stackBytes_setFrames]; rfl
  · refine ⟨?_, Nat.le_refl _, Nat.le_refl _, ?_, ?_, fun a c9 h9 => ⟨c9, h9, rfl, rfl, fun _ _ => rfl⟩⟩
    · obtain ⟨t, ht, -⟩ := State.frames_cons hr
      show T.setVm s.vm = { ((T.setVm s.vm).setFrames (.invoking m args :: below)).setFrames (T.setVm s.vm).frames with heap := T.heap, slotsUsed := T.slotsUsed }
      rw [State.setFrames_setFrames, State.setFrames_self ht]
      rfl
    · show T.slotsUsed = T.slotsUsed + ((T.heap.toList.drop T.heap.size).map (·.slots.size)).sum
      rw [List.drop_eq_nil_of_le (Nat.le_of_eq Array.length_toList)]
      rfl
    · show ((T.heap.toList.drop T.heap.size).map (·.slots.size)).sum ≤ 0
      rw [List.drop_eq_nil_of_le (Nat.le_of_eq Array.length_toList)]
      exact Nat.le_refl _
/-- 'throw new E()': new; dup; invokespecial; athrow -/
theorem vx_throw0 {cc : ByteArray} {pc : Nat} (hexec : p.tables.exec = Jvm.exec) (hb : c.code = cc) (hl : l.stackTraces = false) {own cls : String} {names : List String} {ik ic mc ms : Nat} {A : Nat → Prop}
    (hown : s.vm.findClass own = some m.cls) (hcls : Bundle.fit cls = true) (hnames : ∀ n ∈ names, Bundle.fit n = true)
    (hk : (Cond.classLink own ik cls).before args s = true) (hini : (Cond.initialized cls).before args s = true) (hat : ∀ w ∈ vx_at0 own ic cls names, w.before args s = true)
    (hgood : ∀ w ∈ Cond.classLink own ik cls :: Cond.initialized cls :: vx_at0 own ic cls names, vx_ot w = true)
    (hU : vx_Zq Bundle.tN "UNASSIGNED_STACK" Bundle.steD A s s.heap) (hN : vx_Zq Bundle.tN "SUPPRESSED_SENTINEL" Bundle.listD A s s.heap) (hS : va_S A s.heap H locs) (hsize : ls.size = c.maxLocals)
    (d0 : decode cc pc = .ok (.new ik, 3)) (d3 : decode cc (pc + 3) = .ok (.dup, 1)) (d4 : decode cc (pc + 4) = .ok (.invokespecial ic, 3)) (d7 : decode cc (pc + 7) = .ok (.athrow, 1))
    (hout : ∀ x ∈ c.exceptionTable.toList, covers x (pc + 7) = false)
    (hRframes : names.length + 3 < R.frames) (hRlocals : (rest.map fun v => v.category).sum + (13 * (names.length + 1) + 42) ≤ R.locals) (hRcells : cells + 1 ≤ R.cells) (hRslots : slots + 6 ≤ R.slots) (hlocks : meth.locks = false)
    (hx : ∀ t : State, s.vm.Alike t.vm → H.size ≤ t.heap.size → (∀ q : Nat, q < H.size → t.heap[q]? = H[q]?) → XC cls s t)
    (hf : ∀ z ∈ locs, free z.base) (hc : cells + 1 ≤ mc) (hs : slots + 6 ≤ ms) :
    W p l e R s m args below meth c H locs cells slots (vx_MQ below Qc XC args s mc ms free) (F0 m pc ls rest) := by
  intro T hT X
  have htr : e.platform.stackTraces = false := (show e.platform.stackTraces = l.stackTraces by rw [X.admits.platform]).trans hl
  have Y := vx_rebase X (R' := { frames := R.frames, locals := R.locals, cells := 1, slots := 6 }) (Nat.le_refl _) (Nat.le_refl _) hRcells hRslots
  obtain ⟨s', hA⟩ : ∃ z, z = (T.setVm s.vm).setFrames (.invoking m args :: below) := ⟨_, rfl⟩
  rw [← hA] at Y
  have hvm : s'.vm = s.vm := by rw [hA]; rfl
  have hhp : s'.heap = H := by rw [hA]; exact hT
  have hW0 : s.WarmedH s'.vm := by rw [hvm]; exact State.WarmedH.refl s
  have hat' : ∀ w ∈ vx_at0 own ic cls names, w.before args s' = true := fun w hw => vx_ot_at hW0 hvm.symm (hgood w (List.mem_cons_of_mem _ (List.mem_cons_of_mem _ hw))) (hat w hw)
  have hk' : (Cond.classLink own ik cls).before args s' = true := vx_ot_at hW0 hvm.symm (hgood _ List.mem_cons_self) hk
  have hini' : (Cond.initialized cls).before args s' = true := vx_ot_at hW0 hvm.symm (hgood _ (List.mem_cons_of_mem _ List.mem_cons_self)) hini
  have hU' : vx_Zq Bundle.tN "UNASSIGNED_STACK" Bundle.steD A s' s'.heap := by rw [hhp]; exact vx_Zq.moved hW0.alike (hU.kept hS.2.1)
  have hN' : vx_Zq Bundle.tN "SUPPRESSED_SENTINEL" Bundle.listD A s' s'.heap := by rw [hhp]; exact vx_Zq.moved hW0.alike (hN.kept hS.2.1)
  have h : ∀ w ∈ Bundle.ownAtoms0 own ic cls names, w.before args s' = true := vx_own hat' (vx_isRefq hU'.1) (vx_isRefq hN'.1) hU'.2.word hN'.2.word
  have hown' : s'.vm.findClass own = some m.cls := by rw [hvm]; exact hown
  have hins : (Cond.instantiable cls 6).before args s' = true := h _ (by simp [Bundle.ownAtoms0])
  obtain ⟨vm₁, cX, kX, hfX, hkX, -, -, X₁, st1⟩ := Y.newCold hexec (own := own) (C := cls) (index := ik) (n := 6) hown' hk' hins hini'
    (g := F0 m pc ls rest) rfl (by rw [hb]; exact d0) (Nat.le_refl _) (Nat.le_refl _)
  generalize hT1 : (T.setVm vm₁).pushCell { cls := cX, slots := kX.instanceTypes.map defaultValue, vm := .none } = T1 at X₁ st1
  have hcat : (Value.ref T.heap.size).category = 1 := rfl
  have hcellA : T1.heap[T.heap.size]? = some (freshCell cX kX) := by rw [← hT1]; exact State.heap_pushCell_size _ _
  have d3' : decode c.code (pc + 3) = .ok (.dup, 1) := by rw [hb]; exact d3
  obtain ⟨U, hsteps, hrun, hend, hW, hsame, ce, hce, hO⟩ := X₁.ctorThrow0 hexec htr (own := own) (cls := cls) (names := names) (ic := ic) hown' hcls hnames h (fun x hx => nomatch hx) hfX hkX hcellA (by rw [hhp, hT]; exact Nat.le_refl _)
    (g := { method := m, pc := pc + 4, locals := ls, stack := .ref T.heap.size :: .ref T.heap.size :: rest, locked := none }) rfl hsize rfl rfl (rest := rest) rfl
    (by rw [hb]; exact d4) (by rw [hb]; exact d7) hout hRframes (by simp only [List.map_cons, List.sum_cons, hcat]; omega) hlocks
  obtain ⟨f1, f2⟩ := vx_frame hsame
  rw [hhp] at f1 f2
  have hWs : s.WarmedH U.vm := State.WarmedH.trans hW0 hW
  have hcl : s.vm.findClass cls = some ce.cls := by
    have h9 := hO.cls
    rw [hvm] at h9
    exact h9
  have hall : s.sameButNew ({ U with vm := s.vm } : State) locs mc ms := by
    subst hA
    obtain ⟨e1, e2⟩ := hsame
    rw [State.setFrames_setFrames] at e1
    have h2 : (T.setVm s.vm).sameButNew ({ U with vm := s.vm } : State) [] (0 + 1) (0 + 6) := ⟨e1, e2⟩
    have h3 := X.same.trans h2
    rw [List.append_nil] at h3
    exact h3.mono hc hs
  refine ⟨U, ?_, .threw T.heap.size, hrun, hend, Or.inr ⟨T.heap.size, rfl, cls, ce, locs, hx U hWs.alike f1 (fun q hq => f2 q hq (fun z hz => nomatch hz)), hce, hO.vm, hcl, hWs, hall, hf⟩⟩
  refine st1 _ ?_
  show Steps p.tables e below (T1.setTop { method := m, pc := pc + 3, locals := ls, stack := .ref T.heap.size :: rest, locked := none }) _
  jvm_step X₁.here [X₁.here.top, hexec, d3', Value.category]
  exact hsteps
/-- 'throw new E("text")': new; dup; ldc; invokespecial; athrow -/
theorem vx_throwS {cc : ByteArray} {pc : Nat} (hexec : p.tables.exec = Jvm.exec) (hb : c.code = cc) (hl : l.stackTraces = false) {own cls text : String} {names : List String} {ik is ic mc ms sa : Nat} {A : Nat → Prop}
    (hown : s.vm.findClass own = some m.cls) (hcls : Bundle.fit cls = true) (hnames : ∀ n ∈ names, Bundle.fit n = true)
    (hk : (Cond.classLink own ik cls).before args s = true) (hini : (Cond.initialized cls).before args s = true) (hstr : vk_R own is text sa s) (hat : ∀ w ∈ vx_atS own ic cls names, w.before args s = true)
    (hgood : ∀ w ∈ Cond.classLink own ik cls :: Cond.initialized cls :: vx_atS own ic cls names, vx_ot w = true)
    (hU : vx_Zq Bundle.tN "UNASSIGNED_STACK" Bundle.steD A s s.heap) (hN : vx_Zq Bundle.tN "SUPPRESSED_SENTINEL" Bundle.listD A s s.heap) (hS : va_S A s.heap H locs) (hsize : ls.size = c.maxLocals)
    (d0 : decode cc pc = .ok (.new ik, 3)) (d3 : decode cc (pc + 3) = .ok (.dup, 1)) (d4 : decode cc (pc + 4) = .ok (.ldc is, 2)) (d6 : decode cc (pc + 6) = .ok (.invokespecial ic, 3)) (d9 : decode cc (pc + 9) = .ok (.athrow, 1))
    (hout : ∀ x ∈ c.exceptionTable.toList, covers x (pc + 9) = false)
    (hRframes : names.length + 3 < R.frames) (hRlocals : (rest.map fun v => v.category).sum + (13 * (names.length + 1) + 43) ≤ R.locals) (hRcells : cells + 1 ≤ R.cells) (hRslots : slots + 6 ≤ R.slots) (hlocks : meth.locks = false)
    (hx : ∀ t : State, s.vm.Alike t.vm → H.size ≤ t.heap.size → (∀ q : Nat, q < H.size → t.heap[q]? = H[q]?) → XC cls s t)
    (hf : ∀ z ∈ locs, free z.base) (hc : cells + 1 ≤ mc) (hs : slots + 6 ≤ ms) :
    W p l e R s m args below meth c H locs cells slots (vx_MQ below Qc XC args s mc ms free) (F0 m pc ls rest) := by
  intro T hT X
  have htr : e.platform.stackTraces = false := (show e.platform.stackTraces = l.stackTraces by rw [X.admits.platform]).trans hl
  have Y := vx_rebase X (R' := { frames := R.frames, locals := R.locals, cells := 1, slots := 6 }) (Nat.le_refl _) (Nat.le_refl _) hRcells hRslots
  obtain ⟨s', hA⟩ : ∃ z, z = (T.setVm s.vm).setFrames (.invoking m args :: below) := ⟨_, rfl⟩
  rw [← hA] at Y
  have hvm : s'.vm = s.vm := by rw [hA]; rfl
  have hhp : s'.heap = H := by rw [hA]; exact hT
  have hW0 : s.WarmedH s'.vm := by rw [hvm]; exact State.WarmedH.refl s
  have hat' : ∀ w ∈ vx_atS own ic cls names, w.before args s' = true := fun w hw => vx_ot_at hW0 hvm.symm (hgood w (List.mem_cons_of_mem _ (List.mem_cons_of_mem _ hw))) (hat w hw)
  have hk' : (Cond.classLink own ik cls).before args s' = true := vx_ot_at hW0 hvm.symm (hgood _ List.mem_cons_self) hk
  have hini' : (Cond.initialized cls).before args s' = true := vx_ot_at hW0 hvm.symm (hgood _ (List.mem_cons_of_mem _ List.mem_cons_self)) hini
  have hU' : vx_Zq Bundle.tN "UNASSIGNED_STACK" Bundle.steD A s' s'.heap := by rw [hhp]; exact vx_Zq.moved hW0.alike (hU.kept hS.2.1)
  have hN' : vx_Zq Bundle.tN "SUPPRESSED_SENTINEL" Bundle.listD A s' s'.heap := by rw [hhp]; exact vx_Zq.moved hW0.alike (hN.kept hS.2.1)
  have h : ∀ w ∈ Bundle.ownAtoms own ic cls names, w.before args s' = true := vx_own hat' (vx_isRefq hU'.1) (vx_isRefq hN'.1) hU'.2.word hN'.2.word
  have hown' : s'.vm.findClass own = some m.cls := by rw [hvm]; exact hown
  have hins : (Cond.instantiable cls 6).before args s' = true := h _ (by simp [Bundle.ownAtoms])
  obtain ⟨vm₁, cX, kX, hfX, hkX, -, -, X₁, st1⟩ := Y.newCold hexec (own := own) (C := cls) (index := ik) (n := 6) hown' hk' hins hini'
    (g := F0 m pc ls rest) rfl (by rw [hb]; exact d0) (Nat.le_refl _) (Nat.le_refl _)
  generalize hT1 : (T.setVm vm₁).pushCell { cls := cX, slots := kX.instanceTypes.map defaultValue, vm := .none } = T1 at X₁ st1
  have hcat : (Value.ref T.heap.size).category = 1 := rfl
  have hcellA : T1.heap[T.heap.size]? = some (freshCell cX kX) := by rw [← hT1]; exact State.heap_pushCell_size _ _
  have d3' : decode c.code (pc + 3) = .ok (.dup, 1) := by rw [hb]; exact d3
  have d4' : decode c.code (pc + 4) = .ok (.ldc is, 2) := by rw [hb]; exact d4
  have hstr' : vk_R own is text sa s' := vk_R.warm hW0 hstr
  obtain ⟨U, hsteps, hrun, hend, hW, hsame, ce, hce, hO⟩ := X₁.ctorThrowS hexec htr (own := own) (cls := cls) (names := names) (ic := ic) hown' hcls hnames h (fun x hx => nomatch hx) hfX hkX hcellA (by rw [hhp, hT]; exact Nat.le_refl _) (msg := .ref sa) rfl
    (g := { method := m, pc := pc + 6, locals := ls, stack := .ref sa :: .ref T.heap.size :: .ref T.heap.size :: rest, locked := none }) rfl hsize rfl rfl (rest := rest) rfl
    (by rw [hb]; exact d6) (by rw [hb]; exact d9) hout hRframes (by simp only [List.map_cons, List.sum_cons, hcat]; omega) hlocks
  obtain ⟨f1, f2⟩ := vx_frame hsame
  rw [hhp] at f1 f2
  have hWs : s.WarmedH U.vm := State.WarmedH.trans hW0 hW
  have hcl : s.vm.findClass cls = some ce.cls := by
    have h9 := hO.cls
    rw [hvm] at h9
    exact h9
  have hall : s.sameButNew ({ U with vm := s.vm } : State) locs mc ms := by
    subst hA
    obtain ⟨e1, e2⟩ := hsame
    rw [State.setFrames_setFrames] at e1
    have h2 : (T.setVm s.vm).sameButNew ({ U with vm := s.vm } : State) [] (0 + 1) (0 + 6) := ⟨e1, e2⟩
    have h3 := X.same.trans h2
    rw [List.append_nil] at h3
    exact h3.mono hc hs
  refine ⟨U, ?_, .threw T.heap.size, hrun, hend, Or.inr ⟨T.heap.size, rfl, cls, ce, locs, hx U hWs.alike f1 (fun q hq => f2 q hq (fun z hz => nomatch hz)), hce, hO.vm, hcl, hWs, hall, hf⟩⟩
  refine st1 _ ?_
  show Steps p.tables e below (T1.setTop { method := m, pc := pc + 3, locals := ls, stack := .ref T.heap.size :: rest, locked := none }) _
  jvm_step X₁.here [X₁.here.top, hexec, d3', Value.category]
  exact X₁.ldcString hexec (own := own) (text := text) (index := is) (a := sa) hown' hstr'.1 hstr'.2
    (g := { method := m, pc := pc + 4, locals := ls, stack := .ref T.heap.size :: .ref T.heap.size :: rest, locked := none }) rfl d4' _ hsteps
/-- 'throw new E("text")', the text by a wide index -/
theorem vx_throwSW {cc : ByteArray} {pc : Nat} (hexec : p.tables.exec = Jvm.exec) (hb : c.code = cc) (hl : l.stackTraces = false) {own cls text : String} {names : List String} {ik is ic mc ms sa : Nat} {A : Nat → Prop}
    (hown : s.vm.findClass own = some m.cls) (hcls : Bundle.fit cls = true) (hnames : ∀ n ∈ names, Bundle.fit n = true)
    (hk : (Cond.classLink own ik cls).before args s = true) (hini : (Cond.initialized cls).before args s = true) (hstr : vk_R own is text sa s) (hat : ∀ w ∈ vx_atS own ic cls names, w.before args s = true)
    (hgood : ∀ w ∈ Cond.classLink own ik cls :: Cond.initialized cls :: vx_atS own ic cls names, vx_ot w = true)
    (hU : vx_Zq Bundle.tN "UNASSIGNED_STACK" Bundle.steD A s s.heap) (hN : vx_Zq Bundle.tN "SUPPRESSED_SENTINEL" Bundle.listD A s s.heap) (hS : va_S A s.heap H locs) (hsize : ls.size = c.maxLocals)
    (d0 : decode cc pc = .ok (.new ik, 3)) (d3 : decode cc (pc + 3) = .ok (.dup, 1)) (d4 : decode cc (pc + 4) = .ok (.ldc_w is, 3)) (d7 : decode cc (pc + 7) = .ok (.invokespecial ic, 3)) (d10 : decode cc (pc + 10) = .ok (.athrow, 1))
    (hout : ∀ x ∈ c.exceptionTable.toList, covers x (pc + 10) = false)
    (hRframes : names.length + 3 < R.frames) (hRlocals : (rest.map fun v => v.category).sum + (13 * (names.length + 1) + 43) ≤ R.locals) (hRcells : cells + 1 ≤ R.cells) (hRslots : slots + 6 ≤ R.slots) (hlocks : meth.locks = false)
    (hx : ∀ t : State, s.vm.Alike t.vm → H.size ≤ t.heap.size → (∀ q : Nat, q < H.size → t.heap[q]? = H[q]?) → XC cls s t)
    (hf : ∀ z ∈ locs, free z.base) (hc : cells + 1 ≤ mc) (hs : slots + 6 ≤ ms) :
    W p l e R s m args below meth c H locs cells slots (vx_MQ below Qc XC args s mc ms free) (F0 m pc ls rest) := by
  intro T hT X
  have htr : e.platform.stackTraces = false := (show e.platform.stackTraces = l.stackTraces by rw [X.admits.platform]).trans hl
  have Y := vx_rebase X (R' := { frames := R.frames, locals := R.locals, cells := 1, slots := 6 }) (Nat.le_refl _) (Nat.le_refl _) hRcells hRslots
  obtain ⟨s', hA⟩ : ∃ z, z = (T.setVm s.vm).setFrames (.invoking m args :: below) := ⟨_, rfl⟩
  rw [← hA] at Y
  have hvm : s'.vm = s.vm := by rw [hA]; rfl
  have hhp : s'.heap = H := by rw [hA]; exact hT
  have hW0 : s.WarmedH s'.vm := by rw [hvm]; exact State.WarmedH.refl s
  have hat' : ∀ w ∈ vx_atS own ic cls names, w.before args s' = true := fun w hw => vx_ot_at hW0 hvm.symm (hgood w (List.mem_cons_of_mem _ (List.mem_cons_of_mem _ hw))) (hat w hw)
  have hk' : (Cond.classLink own ik cls).before args s' = true := vx_ot_at hW0 hvm.symm (hgood _ List.mem_cons_self) hk
  have hini' : (Cond.initialized cls).before args s' = true := vx_ot_at hW0 hvm.symm (hgood _ (List.mem_cons_of_mem _ List.mem_cons_self)) hini
  have hU' : vx_Zq Bundle.tN "UNASSIGNED_STACK" Bundle.steD A s' s'.heap := by rw [hhp]; exact vx_Zq.moved hW0.alike (hU.kept hS.2.1)
  have hN' : vx_Zq Bundle.tN "SUPPRESSED_SENTINEL" Bundle.listD A s' s'.heap := by rw [hhp]; exact vx_Zq.moved hW0.alike (hN.kept hS.2.1)
  have h : ∀ w ∈ Bundle.ownAtoms own ic cls names, w.before args s' = true := vx_own hat' (vx_isRefq hU'.1) (vx_isRefq hN'.1) hU'.2.word hN'.2.word
  have hown' : s'.vm.findClass own = some m.cls := by rw [hvm]; exact hown
  have hins : (Cond.instantiable cls 6).before args s' = true := h _ (by simp [Bundle.ownAtoms])
  obtain ⟨vm₁, cX, kX, hfX, hkX, -, -, X₁, st1⟩ := Y.newCold hexec (own := own) (C := cls) (index := ik) (n := 6) hown' hk' hins hini'
    (g := F0 m pc ls rest) rfl (by rw [hb]; exact d0) (Nat.le_refl _) (Nat.le_refl _)
  generalize hT1 : (T.setVm vm₁).pushCell { cls := cX, slots := kX.instanceTypes.map defaultValue, vm := .none } = T1 at X₁ st1
  have hcat : (Value.ref T.heap.size).category = 1 := rfl
  have hcellA : T1.heap[T.heap.size]? = some (freshCell cX kX) := by rw [← hT1]; exact State.heap_pushCell_size _ _
  have d3' : decode c.code (pc + 3) = .ok (.dup, 1) := by rw [hb]; exact d3
  have d4' : decode c.code (pc + 4) = .ok (.ldc_w is, 3) := by rw [hb]; exact d4
  have hstr' : vk_R own is text sa s' := vk_R.warm hW0 hstr
  obtain ⟨U, hsteps, hrun, hend, hW, hsame, ce, hce, hO⟩ := X₁.ctorThrowS hexec htr (own := own) (cls := cls) (names := names) (ic := ic) hown' hcls hnames h (fun x hx => nomatch hx) hfX hkX hcellA (by rw [hhp, hT]; exact Nat.le_refl _) (msg := .ref sa) rfl
    (g := { method := m, pc := pc + 7, locals := ls, stack := .ref sa :: .ref T.heap.size :: .ref T.heap.size :: rest, locked := none }) rfl hsize rfl rfl (rest := rest) rfl
    (by rw [hb]; exact d7) (by rw [hb]; exact d10) hout hRframes (by simp only [List.map_cons, List.sum_cons, hcat]; omega) hlocks
  obtain ⟨f1, f2⟩ := vx_frame hsame
  rw [hhp] at f1 f2
  have hWs : s.WarmedH U.vm := State.WarmedH.trans hW0 hW
  have hcl : s.vm.findClass cls = some ce.cls := by
    have h9 := hO.cls
    rw [hvm] at h9
    exact h9
  have hall : s.sameButNew ({ U with vm := s.vm } : State) locs mc ms := by
    subst hA
    obtain ⟨e1, e2⟩ := hsame
    rw [State.setFrames_setFrames] at e1
    have h2 : (T.setVm s.vm).sameButNew ({ U with vm := s.vm } : State) [] (0 + 1) (0 + 6) := ⟨e1, e2⟩
    have h3 := X.same.trans h2
    rw [List.append_nil] at h3
    exact h3.mono hc hs
  refine ⟨U, ?_, .threw T.heap.size, hrun, hend, Or.inr ⟨T.heap.size, rfl, cls, ce, locs, hx U hWs.alike f1 (fun q hq => f2 q hq (fun z hz => nomatch hz)), hce, hO.vm, hcl, hWs, hall, hf⟩⟩
  refine st1 _ ?_
  show Steps p.tables e below (T1.setTop { method := m, pc := pc + 3, locals := ls, stack := .ref T.heap.size :: rest, locked := none }) _
  jvm_step X₁.here [X₁.here.top, hexec, d3', Value.category]
  exact X₁.ldcStringW hexec (own := own) (text := text) (index := is) (a := sa) hown' hstr'.1 hstr'.2
    (g := { method := m, pc := pc + 4, locals := ls, stack := .ref T.heap.size :: .ref T.heap.size :: rest, locked := none }) rfl d4' _ hsteps
end Ends
section Bodies
variable {l : Launch}
theorem vx_ofW {y : MethodName} {ws ws' : List Cond} {rm : Room} {Pc : Array Value → State → Prop} {Qc : Array Value → State → Outcome → State → Prop} {XC : String → State → State → Prop} {mc ms : Nat} {free : Addr → Prop} {cc : ByteArray} {maxL : Nat} {ret : Option FieldType}
    (hy : plainName y.cls = true) (hw : ws = Cond.code y cc maxL ret :: ws')
    (body : ∀ p e s m args below meth c s₁, BodyLoose p l y (headSpec ws rm) cc maxL ret e s m args below meth c s₁ → c.maxLocals = maxL → (∀ x ∈ c.exceptionTable.toList, False) → Pc args s →
      W p l e (headSpec ws rm).room s m args below meth c s.heap [] 0 0 (vx_MQ below Qc XC args s mc ms free) (entryFrame m args maxL)) : vx_Met l y ws rm Pc Qc XC mc ms free := by
  refine MetFree.of_bodyS (code := cc) (maxLocals := maxL) (ret := ret) hy ?_ ?_
  · intro args s m h hn
    obtain ⟨meth, c, h1, h2, h3, h4, h5, h6, -, -⟩ := Cond.code_spec hn (atoms_spec (ws := ws) h _ (by rw [hw]; exact List.mem_cons_self))
    exact ⟨meth, c, h1, h2, h3, h4, h5, h6⟩
  · intro p e s m args below meth c s₁ B hml hP _
    have hh0 : s₁.heap = s.heap := by rw [B.state]; rfl
    have ht : ∀ x ∈ c.exceptionTable.toList, False := by
      obtain ⟨meth9, c9, h1, h2, -, -, -, -, h7, -⟩ := Cond.code_spec B.named (atoms_spec (ws := ws) B.pre _ (by rw [hw]; exact List.mem_cons_self))
      cases Option.some.inj (h1.symm.trans B.method)
      cases Option.some.inj (h2.symm.trans (Stand.of_body B).code)
      intro x hx
      rw [Array.isEmpty_iff.mp h7] at hx
      cases hx
    obtain ⟨t, a1, o, b1, b2, b3⟩ := body p e s m args below meth c s₁ B hml ht hP s₁ hh0 (Stand.of_body B)
    exact ⟨t, o, a1, b1, b2, b3⟩
/-- the table of a body with handlers -/
theorem vx_table {p : Program} {x y : MethodName} {S : Spec} {cc bytes : ByteArray} {maxL maxL' : Nat} {ret ret' : Option FieldType} {e : Env} {s s₁ : State} {m : MethodId} {args : Array Value} {below : List Frame} {meth : Method} {c : Code} {hh : List (Nat × Nat × Nat × Nat)}
    (B : BodyLoose p l y S cc maxL ret e s m args below meth c s₁) (h : (Cond.codeWith y bytes maxL' ret' hh).before args s = true) : c.exceptionTable.toList = tableOf hh := by
  obtain ⟨m9, meth9, c9, hn9, h1, h2, -, -, h6, -⟩ := Cond.codeWith_spec h
  cases Option.some.inj (hn9.symm.trans B.named)
  cases Option.some.inj (h1.symm.trans B.method)
  cases Option.some.inj (h2.symm.trans (Stand.of_body B).code)
  rw [← h6, table_eq]
end Bodies
end VXA
/-! ===== END ===== -/
/-! ===== BEGIN a static call of a method with an exception table ===== -/
section VXS
variable {p : Program} {l : Launch} {e : Env} {R : Room} {s : State} {m : MethodId} {args : Array Value} {below : List Frame} {meth : Method} {c : Code} {T : State} {H : Heap} {locs : List Loc} {cells slots : Nat}
abbrev vx_CSW (R : Room) (s : State) (args : Array Value) (own : String) (index : Nat) (y : MethodName) (bytes : ByteArray) (maxL : Nat) (ret : Option FieldType) (hh : List (Nat × Nat × Nat × Nat)) (ws : List Cond) (rm : Room) (mc ms n : Nat) : Prop :=
  (rm.cells = mc ∧ rm.slots = ms ∧ rm.frames + 1 ≤ R.frames ∧ 8 + (maxL + 11) + rm.locals ≤ R.locals ∧ (∀ w ∈ ws, ∀ (a' : Array Value) (U : State), s.WarmedH U.vm → w.before a' U = true) ∧ Cond.codeWith y bytes maxL ret hh ∈ ws) ∧
  (Cond.codeWith y bytes maxL ret hh).before args s = true ∧ (Cond.initialized y.cls).before args s = true ∧ (y.cls ≠ "java/lang/invoke/MethodHandle" ∧ y.cls ≠ "java/lang/invoke/VarHandle") ∧
  (∀ sig, parseMethodDescriptor y.desc = some sig → n = sig.parameters.length) ∧ (Cond.methodLink own index y).before args s = true ∧ (Cond.static y).before args s = true
theorem vx_cwSW {own : String} {index maxL mc ms : Nat} {y : MethodName} {bytes : ByteArray} {ret : Option FieldType} {hh : List (Nat × Nat × Nat × Nat)} {Ts ws ws' : List Cond} {rm : Room} (n : Nat) (ht : ∀ w ∈ Ts, w.before args s = true) (hT : GoodIn Ts (va_wsS own index y ws)) (hw : ws = Cond.codeWith y bytes maxL ret hh :: ws') (hrc : rm.cells = mc) (hrs : rm.slots = ms)
    (hd : y.cls ≠ "java/lang/invoke/MethodHandle" ∧ y.cls ≠ "java/lang/invoke/VarHandle" ∧ (parseMethodDescriptor y.desc).map (fun d => d.parameters.length) = some n) (hR : rm.frames + 1 ≤ R.frames ∧ 8 + (maxL + 11) + rm.locals ≤ R.locals) :
    vx_CSW R s args own index y bytes maxL ret hh ws rm mc ms n := by
  have ok : ∀ w ∈ va_wsS own index y ws, w.before args s = true := fun w h => ht w (hT w h).1
  have hG : GoodIn Ts ws := fun w h => hT w (by unfold va_wsS; exact List.mem_append_right _ h)
  have hc : Cond.codeWith y bytes maxL ret hh ∈ ws := by rw [hw]; exact List.mem_cons_self
  refine ⟨⟨hrc, hrs, hR.1, hR.2, pay_in ht hG, hc⟩, ht _ (hG _ hc).1, ok _ (by simp [va_wsS]), ⟨hd.1, hd.2.1⟩, fun sig h => ?_, ok _ (by simp [va_wsS]), ok _ (by simp [va_wsS])⟩
  have h2 := hd.2.2
  rw [h] at h2
  exact (Option.some.inj h2).symm
theorem vx_callSW (X : Stand p l e R s m args below meth c T locs cells slots) (hexec : p.tables.exec = Jvm.exec) {own : String} {index : Nat} {y : MethodName} {bytes : ByteArray} {maxL : Nat} {ret : Option FieldType} {hh : List (Nat × Nat × Nat × Nat)}
    (hown : s.vm.findClass own = some m.cls) (hlink : (Cond.methodLink own index y).before args s = true) (hstat : (Cond.static y).before args s = true) (hinit : (Cond.initialized y.cls).before args s = true)
    (hcode : (Cond.codeWith y bytes maxL ret hh).before args s = true) (hy : y.cls ≠ "java/lang/invoke/MethodHandle" ∧ y.cls ≠ "java/lang/invoke/VarHandle")
    {W9 : Nat} {Pre : Pt → Array Value → Prop} {Post : Pt → Array Value → Option Value → Pt → Prop} (hK : Back l R p e below s args y 3 W9 Pre Post)
    {g : JFrame} (hg : g.method = m) (hsize : g.locals.size = c.maxLocals) {argsL rest : List Value} (hlen : ∀ sig, parseMethodDescriptor y.desc = some sig → argsL.length = sig.parameters.length)
    (hstack : g.stack = argsL.reverse ++ rest) (hW : 2 * g.monitorRoom + (rest.map fun v => v.category).sum ≤ W9) (hdg : decode c.code g.pc = .ok (.invokestatic index, 3))
    (hpre : ∀ vm₁, s.WarmedH vm₁ → Pre ⟨T.setVm vm₁, locs, cells, slots⟩ argsL.toArray) :
    ∃ (v : Option Value) (vm₁ : Vm) (B : Pt), s.WarmedH vm₁ ∧ Stand p l e R s m args below meth c B.U B.locs B.cells B.slots ∧ Post ⟨T.setVm vm₁, locs, cells, slots⟩ argsL.toArray v B ∧
      ∀ target, Steps p.tables e below (B.U.setTop { g with pc := g.pc + 3, stack := v.toList ++ rest }) target → Steps p.tables e below (T.setTop g) target := by
  obtain ⟨mk, methM, cM, hnamed, hmethM, -, -, -, -, -, -, hsigM⟩ := Cond.codeWith_spec hcode
  have hstatic : methM.isStatic = true := Cond.static_spec hnamed hmethM hstat
  obtain ⟨kP, hkP, -⟩ := className_of_methodNamed hnamed
  have hinitP : kP.init = .initialized := Cond.initialized_spec (findClass_of_methodNamed hnamed) hkP hinit
  obtain ⟨vm₁, X₁, hstep₁⟩ := X.invokestatic hexec hown hlink hnamed hmethM hstatic hkP hinitP hy (g := g) hg (argsL := argsL) (rest := rest) (hlen _ hsigM) hstack hdg
  obtain ⟨v, B, X', hpost, hsteps⟩ := hK m meth c ⟨T.setVm vm₁, locs, cells, slots⟩ { g with stack := rest } (.invokestatic index) mk argsL.toArray X₁ hg hsize hdg hW (X₁.named hnamed) (hpre vm₁ X₁.warmed)
  exact ⟨v, vm₁, B, X₁.warmed, X', hpost, fun target h => hstep₁ _ fun acts => by rw [doInvoke_state]; exact hsteps.trans h⟩
theorem vx_runSW {y : MethodName} {bytes cc : ByteArray} {maxL nL mc ms n index : Nat} {ret : Option FieldType} {hh : List (Nat × Nat × Nat × Nat)} {ws : List Cond} {rm : Room} {Pc : Array Value → State → Prop} {Qc : Array Value → State → Outcome → State → Prop} {free : Addr → Prop} {Ts : List Cond} {own : String} {As rest : List Value} {g : JFrame}
    (S : CallFix p m c cc nL s args Ts own) (hM : Met l y ws rm Pc Qc mc ms free) (cw : vx_CSW R s args own index y bytes maxL ret hh ws rm mc ms n) (hp : PreS s H Pc As)
    (hg : g.method = m) (hn : As.length = n) (hsize : g.locals.size = nL) (hstack : g.stack = As.reverse ++ rest) (hW : 2 * g.monitorRoom + (rest.map fun v => v.category).sum ≤ 8) (hdg : decode cc g.pc = .ok (.invokestatic index, 3)) (hf : cells + mc ≤ R.cells ∧ slots + ms ≤ R.slots) :
    va_Run p l e R s m args below meth c H locs cells slots mc ms g rest (Qc As.toArray) (free) := by
  obtain ⟨⟨hrc, hrs, hfr, hlo, hws, hcw⟩, hcode, hini, hy, hlen, hl, hstt⟩ := cw
  have hK : Back l R p e below s args y 3 8 (PreOf R mc ms Pc) (PostOf Qc mc ms free) := va_backW (hh := hh) (bytes := bytes) (maxL := maxL) (ret := ret) hM hp.1 hrc hrs hfr hlo hws hcw (fun a' U hW => word_at hW (Or.inl (by first | rfl | simp [Cond.onTables, Cond.keeps, Cond.steady])) hini)
  obtain ⟨hx, hb, hml, ho, -⟩ := S
  intro T hT X
  obtain ⟨v, vm₁, ⟨U', l2, c2, s2⟩, hW₁, X', ⟨g', mk, t, L, e1, e2, hq, h1, hL, h2, h3⟩, st⟩ := vx_callSW X hx (hh := hh) (bytes := bytes) (maxL := maxL) (ret := ret) ho hl hstt hini hcode hy hK hg (hsize.trans hml.symm) (argsL := As) (rest := rest) (fun sig h => hn.trans (hlen sig h)) hstack hW (by rw [hb]; exact hdg)
    (fun vm₁ hW₁ => ⟨hf.1, hf.2, hp.2 (T.setVm vm₁) hT hW₁⟩)
  dsimp only [Pt.U, Pt.locs, Pt.cells, Pt.slots] at X' e1 e2 h1 h2 h3 st
  subst h1; subst h2; subst h3
  exact ⟨v, (T.setVm vm₁).calling g' mk As.toArray, t, U', L, hT, X', hL, e1, e2, hq, st⟩
/-- not caught here, past rows that name other classes: it goes on to the caller -/
theorem vx_outP {p : Program} {l : Launch} {e : Env} {R : Room} {s : State} {m : MethodId} {args : Array Value} {below : List Frame} {meth : Method} {c : Code} {H : Heap} {locs : List Loc} {cells slots : Nat} {free : Addr → Prop} {ls : Array Slot} {rest : List Value} {Qc : Array Value → State → Outcome → State → Prop} {XC : String → State → State → Prop}
    {pc : Nat} {own E : String} {ce : Cell} {q : Addr} {mc ms : Nat} (hown : s.vm.findClass own = some m.cls) (hlocks : meth.locks = false)
    (hpass : ∀ z ∈ c.exceptionTable.toList, covers z pc = false ∨ (z.catchType ≠ 0 ∧ ∃ nm : String, (Cond.classLink own z.catchType nm).before args s = true ∧ va_Nc E nm s)) (hcell : H[q]? = some ce) (hv : ce.vm = .none) (hcl : s.vm.findClass E = some ce.cls)
    (hx : ∀ t : State, t.heap = H → s.vm.Alike t.vm → XC E s t) (hf : ∀ z ∈ locs, free z.base) (hc : cells ≤ mc) (hs : slots ≤ ms) :
    vx_W p l e R s m args below meth c H locs cells slots (vx_MQ below Qc XC args s mc ms free) (F0 m pc ls rest) q := by
  intro T hT X
  have hpl : e.platform.magicAccessors = ({} : Platform).magicAccessors := by rw [X.admits.platform]
  obtain ⟨vm', hW', X', st⟩ := X.outThrough hlocks q (g := F0 m pc ls rest) rfl rfl rfl (cell := ce) (by rw [hT]; exact hcell) (by rw [hv]; rfl)
    (by obtain ⟨k9, h9, -⟩ := Vm.findClass_spec hcl; exact ⟨k9, h9⟩) (fun z hz => by
      rcases hpass z hz with h | ⟨hz0, nm, hl1, hn1⟩
      · exact Or.inl h
      · obtain ⟨c6, hc6, hcl6⟩ := Cond.classLink_spec hown hl1 e.platform hpl
        obtain ⟨a8, b8, h1, h2, h3⟩ := hn1
        cases Option.some.inj (h1.symm.trans hcl)
        cases Option.some.inj (h2.symm.trans hc6)
        exact Or.inr ⟨hz0, _, hcl6, h3⟩)
  obtain ⟨g₀, hfr⟩ := X'.frames_eq
  have hcell9 : ((T.setVm vm').setFrames (.throwing q :: below)).heap[q]? = some ce := by
    show T.heap[q]? = some ce
    rw [hT]; exact hcell
  have hend : Ended ((T.setVm vm').setFrames (.throwing q :: below)) below (.threw q) := State.frames_setFrames _ (State.cur_lt_of_frames hfr)
  refine ⟨(T.setVm vm').setFrames (.throwing q :: below), ?_, .threw q, X'.here.running, hend, Or.inr ⟨q, rfl, E, ce, locs, hx _ hT (X'.ends _).1.alike, hcell9, hv, hcl, (X'.ends _).1, (X'.ends _).2.mono hc hs, hf⟩⟩
  rw [X.pushThrowing_eq]
  exact st
/-- a thing of a world lies in the heap -/
theorem vx_lt {D : va_G} {cl : List vw_C} {ws : va_W} {H1 : Heap} (h : va_P D cl ws H1) {k : Nat} {q : Nat × va_E} (hk : ws[k]? = some q) : q.1 < H1.size := (h k q hk).lt
end VXS
/-! ===== END ===== -/
/-! ===== BEGIN methods with a table of their own: called by a name, returning or throwing ===== -/
section VXH
/-! vx_backW, vx_callVX, vx_callSX, vx_callVW, vx_runVW, vx_runVX, vx_runSX, vx_ofWH follow the same proofs as their sisters above (Free/Laws.lean, Shelf42/LK1.lean); vx_outP calls Shelf42/NT130.lean (outThrough). -/
section
variable {l : Launch} {R : Room} {p : Program} {e : Env} {below : List Frame} {s : State} {sargs : Array Value} {y : MethodName} {len W9 : Nat}
theorem vx_backW {ws : List Cond} {rm : Room} {Pc : Array Value → State → Prop} {Qc : Array Value → State → Outcome → State → Prop} {XC : String → State → State → Prop} {mc ms : Nat} {free : Addr → Prop} {bytes : ByteArray} {maxL : Nat} {ret : Option FieldType} {hh : List (Nat × Nat × Nat × Nat)}
    (hM : vx_Met l y ws rm Pc Qc XC mc ms free) (hblind : FrameBlind Pc) (hrc : rm.cells = mc) (hrs : rm.slots = ms)
    (hframes : rm.frames + 1 ≤ R.frames) (hlocals : W9 + (maxL + 11) + rm.locals ≤ R.locals)
    (hws : ∀ w ∈ ws, ∀ a' U, s.WarmedH U.vm → w.before a' U = true) (hcode : Cond.codeWith y bytes maxL ret hh ∈ ws) (hinit : ∀ a' U, s.WarmedH U.vm → (Cond.initialized y.cls).before a' U = true) :
    vx_Back l R p e below s sargs y len W9 (PreOf R mc ms Pc) (PostOf Qc mc ms free) (vx_Post XC mc ms free) := by
  intro m meth c A g ig mk a X hg hsize hdg hW hn hp
  have h1 : (headSpec ws rm).pre.before a A.U = true := atoms_intro fun w hw => hws w hw _ _ X.warmed
  have h2 : (Cond.codeWith y bytes maxL ret hh).before a A.U = true := hws _ hcode _ _ X.warmed
  have h3 : (Cond.initialized y.cls).before a A.U = true := hinit _ _ X.warmed
  have h4 : A.cells + (headSpec ws rm).room.cells ≤ R.cells := by rw [show (headSpec ws rm).room.cells = mc from hrc]; exact hp.1
  have h5 : A.slots + (headSpec ws rm).room.slots ≤ R.slots := by rw [show (headSpec ws rm).room.slots = ms from hrs]; exact hp.2.1
  have hPc : Pc a (A.U.calling g mk a) := hblind _ _ _ _ hp.2.2
  obtain ⟨U, Ls, c0, s0⟩ := A
  dsimp only [Pt.U, Pt.locs, Pt.cells, Pt.slots] at h1 h2 h3 h4 h5 X hn hPc ⊢
  obtain ⟨m9, methY, cY, hn9, hmY, hcY, -, hlY, -⟩ := Cond.codeWith_spec h2
  cases Option.some.inj (hn9.symm.trans hn)
  obtain ⟨kY, hkY, -⟩ := className_of_methodNamed hn
  have hinitY : kY.init = .initialized := Cond.initialized_spec (findClass_of_methodNamed hn) hkY h3
  have h : At U g.method c below := by rw [hg]; exact X.here
  have hlocals9 : W9 + (maxL + 11) + (headSpec ws rm).room.locals ≤ R.locals := hlocals
  have happ : (headSpec ws rm).appliesLoose y e.platform (U.calling g mk a) = true :=
    Spec.appliesLoose_calling (g := g) h hdg hn hkY hinitY
      (X.room_calling (g := g) (R' := (headSpec ws rm).room) hsize hmY hcY hframes (by rw [hlY]; omega) h4 h5) h1
  obtain ⟨mid, hmid⟩ := h.above
  have hfr : (U.setTop g).frames = (.java g :: mid) ++ below := by rw [State.frames_setTop' g h.top, hmid]; rfl
  obtain ⟨o, s₂, hsteps, -, hend, hq⟩ := Steps.callFree hM p X.admits X.cas X.clock (acts := []) hfr happ hPc trivial
  have hq' : vx_Q Qc XC mc ms free a (U.calling g mk a) o s₂ := hq
  rw [State.frames_setTop' g h.top] at hend
  obtain ⟨g₀, hg0⟩ := Option.isSome_iff_exists.mp h.top
  obtain ⟨r, hr⟩ := State.topJava?_eq_some.mp hg0
  have hr' : (({ U with heap := s₂.heap, slotsUsed := s₂.slotsUsed } : State).setVm s₂.vm).frames = .java g₀ :: r := hr
  rcases hq' with ⟨hqc, L, hfe, hL⟩ | ⟨q, rfl, E, ce, L, hx, hce, hcv, hcl, hW₂, hsm, hL⟩
  · obtain ⟨⟨v, rfl⟩, hW₂, e2, q2, q3, q4, q5, q6⟩ := id hfe
    have e3 : s₂ = ({ (U.calling g mk a).setFrames s₂.frames with heap := s₂.heap, slotsUsed := s₂.slotsUsed } : State).setVm s₂.vm := by
      have : s₂ = ({ s₂ with vm := (U.calling g mk a).vm } : State).setVm s₂.vm := rfl
      rw [e2] at this
      exact this
    obtain ⟨c₂, i₂, len₂, hc₂, hd₂, hf₂⟩ := hend
    have hW' : U.WarmedH s₂.vm := hW₂
    have hcc : c₂ = c := by
      have h1 : s₂.code? g.method = U.code? g.method := by
        rw [State.code?_eq, State.code?_eq, hW'.alike.method?]
      exact Option.some.inj (hc₂.symm.trans (h1.trans h.code))
    subst hcc
    have hlen : len₂ = len := by rw [hdg] at hd₂; cases hd₂; rfl
    subst hlen
    have hs₂ : s₂ = (({ U with heap := s₂.heap, slotsUsed := s₂.slotsUsed } : State).setVm s₂.vm).setTop { g with pc := g.pc + len₂, stack := v.toList ++ g.stack } := by
      refine e3.trans ?_
      rw [hf₂, State.calling_eq h.top, State.setFrames_setFrames, State.setTop_of_frames _ hr', hr]
      rfl
    have hsame : U.sameButNew ({ U with heap := s₂.heap, slotsUsed := s₂.slotsUsed } : State) L mc ms := by
      refine ⟨?_, q2, q3, q4, q5, q6⟩
      obtain ⟨t, ht, -⟩ := State.frames_cons hr
      show ({ U with heap := s₂.heap, slotsUsed := s₂.slotsUsed } : State) = { U.setFrames U.frames with heap := s₂.heap, slotsUsed := s₂.slotsUsed }
      rw [State.setFrames_self ht]
    subst hg
    refine Or.inl ⟨v, ⟨(({ U with heap := s₂.heap, slotsUsed := s₂.slotsUsed } : State).setVm s₂.vm), Ls ++ L, c0 + mc, s0 + ms⟩,
      ⟨X.admits, X.cas, X.clock, X.frames, X.room, X.hears, X.method, X.code, (X.here.setHeapUsed s₂.heap s₂.slotsUsed).setVm hW'.alike, X.tail, State.WarmedH.trans X.warmed hW', X.limits, X.bytes, X.same.trans (hsame.setVm s.vm)⟩,
      ⟨g, mk, s₂, L, rfl, rfl, hqc, rfl, hL, rfl, rfl⟩, ?_⟩
    show Steps p.tables e below _ ((({ U with heap := s₂.heap, slotsUsed := s₂.slotsUsed } : State).setVm s₂.vm).setTop { g with pc := g.pc + len₂, stack := v.toList ++ g.stack })
    rw [← hs₂]
    exact hsteps
  · obtain ⟨e2, q2, q3, q4, q5, q6⟩ := id hsm
    have e3 : s₂ = ({ (U.calling g mk a).setFrames s₂.frames with heap := s₂.heap, slotsUsed := s₂.slotsUsed } : State).setVm s₂.vm := by
      have : s₂ = ({ s₂ with vm := (U.calling g mk a).vm } : State).setVm s₂.vm := rfl
      rw [e2] at this
      exact this
    have hf₂ : s₂.frames = .throwing q :: .java g :: U.frames.tail := hend
    have hW' : U.WarmedH s₂.vm := hW₂
    have hs₂ : s₂ = ((({ U with heap := s₂.heap, slotsUsed := s₂.slotsUsed } : State).setVm s₂.vm).setTop g).pushFrame (.throwing q) := by
      refine e3.trans ?_
      rw [hf₂, State.calling_eq h.top, State.setFrames_setFrames, State.pushFrame, State.frames_setTop _ hr', State.setTop_of_frames _ hr', State.setFrames_setFrames, hr]
      rfl
    have hsame : U.sameButNew ({ U with heap := s₂.heap, slotsUsed := s₂.slotsUsed } : State) L mc ms := by
      refine ⟨?_, q2, q3, q4, q5, q6⟩
      obtain ⟨t, ht, -⟩ := State.frames_cons hr
      show ({ U with heap := s₂.heap, slotsUsed := s₂.slotsUsed } : State) = { U.setFrames U.frames with heap := s₂.heap, slotsUsed := s₂.slotsUsed }
      rw [State.setFrames_self ht]
    subst hg
    refine Or.inr ⟨q, ⟨(({ U with heap := s₂.heap, slotsUsed := s₂.slotsUsed } : State).setVm s₂.vm), Ls ++ L, c0 + mc, s0 + ms⟩,
      ⟨X.admits, X.cas, X.clock, X.frames, X.room, X.hears, X.method, X.code, (X.here.setHeapUsed s₂.heap s₂.slotsUsed).setVm hW'.alike, X.tail, State.WarmedH.trans X.warmed hW', X.limits, X.bytes, X.same.trans (hsame.setVm s.vm)⟩,
      ⟨g, mk, s₂, L, E, ce, rfl, rfl, hx, hce, hcv, hcl, rfl, hL, rfl, rfl⟩, ?_⟩
    show Steps p.tables e below _ (((({ U with heap := s₂.heap, slotsUsed := s₂.slotsUsed } : State).setVm s₂.vm).setTop g).pushFrame (.throwing q))
    rw [← hs₂]
    exact hsteps
end
variable {p : Program} {l : Launch} {e : Env} {R : Room} {s : State} {m : MethodId} {args : Array Value} {below : List Frame} {meth : Method} {c : Code} {T : State} {H : Heap} {locs : List Loc} {cells slots : Nat}
theorem vx_callVX (X : Stand p l e R s m args below meth c T locs cells slots) (hexec : p.tables.exec = Jvm.exec) {own C : String} {index : Nat} {y : MethodName} {bytes : ByteArray} {maxL : Nat} {ret : Option FieldType} {hh : List (Nat × Nat × Nat × Nat)}
    (hown : s.vm.findClass own = some m.cls) (hlink : (Cond.methodLink own index y).before args s = true) (hinst : (Cond.instanceMethod y).before args s = true) (hsel : (Cond.selects C y y).before args s = true)
    (hcode : (Cond.codeWith y bytes maxL ret hh).before args s = true) (hy : y.cls ≠ "java/lang/invoke/MethodHandle" ∧ y.cls ≠ "java/lang/invoke/VarHandle")
    {W9 : Nat} {Pre : Pt → Array Value → Prop} {Post : Pt → Array Value → Option Value → Pt → Prop} {PostX : Pt → Array Value → Addr → Pt → Prop} (hK : vx_Back l R p e below s args y 3 W9 Pre Post PostX)
    {b : Addr} {cellB : Cell} (hcell : T.heap[b]? = some cellB) (hobj : cellB.vm.isStatics = false) (hcls : s.vm.findClass C = some cellB.cls)
    {g : JFrame} (hg : g.method = m) (hsize : g.locals.size = c.maxLocals) {argsL rest : List Value} (hlen : ∀ sig, parseMethodDescriptor y.desc = some sig → argsL.length = sig.parameters.length)
    (hstack : g.stack = argsL.reverse ++ .ref b :: rest) (hW : 2 * g.monitorRoom + (rest.map fun v => v.category).sum ≤ W9) (hdg : decode c.code g.pc = .ok (.invokevirtual index, 3))
    (hpre : ∀ vm₁, s.WarmedH vm₁ → Pre ⟨T.setVm vm₁, locs, cells, slots⟩ (Value.ref b :: argsL).toArray) :
    (∃ (v : Option Value) (vm₁ : Vm) (B : Pt), s.WarmedH vm₁ ∧ Stand p l e R s m args below meth c B.U B.locs B.cells B.slots ∧ Post ⟨T.setVm vm₁, locs, cells, slots⟩ (Value.ref b :: argsL).toArray v B ∧
      ∀ target, Steps p.tables e below (B.U.setTop { g with pc := g.pc + 3, stack := v.toList ++ rest }) target → Steps p.tables e below (T.setTop g) target) ∨
    (∃ (q : Addr) (vm₁ : Vm) (B : Pt), s.WarmedH vm₁ ∧ Stand p l e R s m args below meth c B.U B.locs B.cells B.slots ∧ PostX ⟨T.setVm vm₁, locs, cells, slots⟩ (Value.ref b :: argsL).toArray q B ∧
      Steps p.tables e below (T.setTop g) ((B.U.setTop { g with stack := rest }).pushFrame (.throwing q))) := by
  obtain ⟨mk, methM, hnamed, hmethM, hstM, habM⟩ := Cond.instanceMethod_spec hinst
  obtain ⟨m8, methM', cM, hn8, hmethM', -, -, -, -, -, -, hsigM⟩ := Cond.codeWith_spec hcode
  cases Option.some.inj (hn8.symm.trans hnamed)
  cases hmethM.symm.trans hmethM'
  obtain ⟨c2, r2, m2, q1, q2, q3, q4, kP, hkP, hkPi⟩ := Cond.selects_spec hsel
  cases hcls.symm.trans q1
  cases (State.methodFound?_of_named hnamed hy).symm.trans q2
  cases hnamed.symm.trans q3
  have hselP : selectMethod e.platform s.vm cellB.cls mk = .method mk := by rw [Launch.admits_selectMethod X.admits]; exact q4
  obtain ⟨vm₁, X₁, hstep₁⟩ := X.invokevirtual hexec hown hlink hnamed hmethM hstM hkP hkPi hy (a := b) (cell := cellB) hcell
    (fun z h => by rw [h] at hobj; cases hobj) hselP hmethM habM hkP hkPi (g := g) hg (argsL := argsL) (rest := rest) (hlen _ hsigM) hstack hdg
  rcases hK m meth c ⟨T.setVm vm₁, locs, cells, slots⟩ { g with stack := rest } (.invokevirtual index) mk (Value.ref b :: argsL).toArray X₁ hg hsize hdg hW (X₁.named hnamed) (hpre vm₁ X₁.warmed) with ⟨v, B, X', hpost, hsteps⟩ | ⟨q, B, X', hpost, hsteps⟩
  · exact Or.inl ⟨v, vm₁, B, X₁.warmed, X', hpost, fun target h => hstep₁ _ fun acts => by rw [doInvoke_state]; exact hsteps.trans h⟩
  · exact Or.inr ⟨q, vm₁, B, X₁.warmed, X', hpost, hstep₁ _ fun acts => by rw [doInvoke_state]; exact hsteps⟩
theorem vx_callSX (X : Stand p l e R s m args below meth c T locs cells slots) (hexec : p.tables.exec = Jvm.exec) {own : String} {index : Nat} {y : MethodName} {bytes : ByteArray} {maxL : Nat} {ret : Option FieldType} {hh : List (Nat × Nat × Nat × Nat)}
    (hown : s.vm.findClass own = some m.cls) (hlink : (Cond.methodLink own index y).before args s = true) (hstat : (Cond.static y).before args s = true) (hinit : (Cond.initialized y.cls).before args s = true)
    (hcode : (Cond.codeWith y bytes maxL ret hh).before args s = true) (hy : y.cls ≠ "java/lang/invoke/MethodHandle" ∧ y.cls ≠ "java/lang/invoke/VarHandle")
    {W9 : Nat} {Pre : Pt → Array Value → Prop} {Post : Pt → Array Value → Option Value → Pt → Prop} {PostX : Pt → Array Value → Addr → Pt → Prop} (hK : vx_Back l R p e below s args y 3 W9 Pre Post PostX)
    {g : JFrame} (hg : g.method = m) (hsize : g.locals.size = c.maxLocals) {argsL rest : List Value} (hlen : ∀ sig, parseMethodDescriptor y.desc = some sig → argsL.length = sig.parameters.length)
    (hstack : g.stack = argsL.reverse ++ rest) (hW : 2 * g.monitorRoom + (rest.map fun v => v.category).sum ≤ W9) (hdg : decode c.code g.pc = .ok (.invokestatic index, 3))
    (hpre : ∀ vm₁, s.WarmedH vm₁ → Pre ⟨T.setVm vm₁, locs, cells, slots⟩ argsL.toArray) :
    (∃ (v : Option Value) (vm₁ : Vm) (B : Pt), s.WarmedH vm₁ ∧ Stand p l e R s m args below meth c B.U B.locs B.cells B.slots ∧ Post ⟨T.setVm vm₁, locs, cells, slots⟩ argsL.toArray v B ∧
      ∀ target, Steps p.tables e below (B.U.setTop { g with pc := g.pc + 3, stack := v.toList ++ rest }) target → Steps p.tables e below (T.setTop g) target) ∨
    (∃ (q : Addr) (vm₁ : Vm) (B : Pt), s.WarmedH vm₁ ∧ Stand p l e R s m args below meth c B.U B.locs B.cells B.slots ∧ PostX ⟨T.setVm vm₁, locs, cells, slots⟩ argsL.toArray q B ∧
      Steps p.tables e below (T.setTop g) ((B.U.setTop { g with stack := rest }).pushFrame (.throwing q))) := by
  obtain ⟨mk, methM, cM, hnamed, hmethM, -, -, -, -, -, -, hsigM⟩ := Cond.codeWith_spec hcode
  have hstatic : methM.isStatic = true := Cond.static_spec hnamed hmethM hstat
  obtain ⟨kP, hkP, -⟩ := className_of_methodNamed hnamed
  have hinitP : kP.init = .initialized := Cond.initialized_spec (findClass_of_methodNamed hnamed) hkP hinit
  obtain ⟨vm₁, X₁, hstep₁⟩ := X.invokestatic hexec hown hlink hnamed hmethM hstatic hkP hinitP hy (g := g) hg (argsL := argsL) (rest := rest) (hlen _ hsigM) hstack hdg
  rcases hK m meth c ⟨T.setVm vm₁, locs, cells, slots⟩ { g with stack := rest } (.invokestatic index) mk argsL.toArray X₁ hg hsize hdg hW (X₁.named hnamed) (hpre vm₁ X₁.warmed) with ⟨v, B, X', hpost, hsteps⟩ | ⟨q, B, X', hpost, hsteps⟩
  · exact Or.inl ⟨v, vm₁, B, X₁.warmed, X', hpost, fun target h => hstep₁ _ fun acts => by rw [doInvoke_state]; exact hsteps.trans h⟩
  · exact Or.inr ⟨q, vm₁, B, X₁.warmed, X', hpost, hstep₁ _ fun acts => by rw [doInvoke_state]; exact hsteps⟩
theorem vx_callVW (X : Stand p l e R s m args below meth c T locs cells slots) (hexec : p.tables.exec = Jvm.exec) {own C : String} {index : Nat} {y : MethodName} {bytes : ByteArray} {maxL : Nat} {ret : Option FieldType} {hh : List (Nat × Nat × Nat × Nat)}
    (hown : s.vm.findClass own = some m.cls) (hlink : (Cond.methodLink own index y).before args s = true) (hinst : (Cond.instanceMethod y).before args s = true) (hsel : (Cond.selects C y y).before args s = true)
    (hcode : (Cond.codeWith y bytes maxL ret hh).before args s = true) (hy : y.cls ≠ "java/lang/invoke/MethodHandle" ∧ y.cls ≠ "java/lang/invoke/VarHandle")
    {W9 : Nat} {Pre : Pt → Array Value → Prop} {Post : Pt → Array Value → Option Value → Pt → Prop} (hK : Back l R p e below s args y 3 W9 Pre Post)
    {b : Addr} {cellB : Cell} (hcell : T.heap[b]? = some cellB) (hobj : cellB.vm.isStatics = false) (hcls : s.vm.findClass C = some cellB.cls)
    {g : JFrame} (hg : g.method = m) (hsize : g.locals.size = c.maxLocals) {argsL rest : List Value} (hlen : ∀ sig, parseMethodDescriptor y.desc = some sig → argsL.length = sig.parameters.length)
    (hstack : g.stack = argsL.reverse ++ .ref b :: rest) (hW : 2 * g.monitorRoom + (rest.map fun v => v.category).sum ≤ W9) (hdg : decode c.code g.pc = .ok (.invokevirtual index, 3))
    (hpre : ∀ vm₁, s.WarmedH vm₁ → Pre ⟨T.setVm vm₁, locs, cells, slots⟩ (Value.ref b :: argsL).toArray) :
    ∃ (v : Option Value) (vm₁ : Vm) (B : Pt), s.WarmedH vm₁ ∧ Stand p l e R s m args below meth c B.U B.locs B.cells B.slots ∧ Post ⟨T.setVm vm₁, locs, cells, slots⟩ (Value.ref b :: argsL).toArray v B ∧
      ∀ target, Steps p.tables e below (B.U.setTop { g with pc := g.pc + 3, stack := v.toList ++ rest }) target → Steps p.tables e below (T.setTop g) target := by
  obtain ⟨mk, methM, hnamed, hmethM, hstM, habM⟩ := Cond.instanceMethod_spec hinst
  obtain ⟨m8, methM', cM, hn8, hmethM', -, -, -, -, -, -, hsigM⟩ := Cond.codeWith_spec hcode
  cases Option.some.inj (hn8.symm.trans hnamed)
  cases hmethM.symm.trans hmethM'
  obtain ⟨c2, r2, m2, q1, q2, q3, q4, kP, hkP, hkPi⟩ := Cond.selects_spec hsel
  cases hcls.symm.trans q1
  cases (State.methodFound?_of_named hnamed hy).symm.trans q2
  cases hnamed.symm.trans q3
  have hselP : selectMethod e.platform s.vm cellB.cls mk = .method mk := by rw [Launch.admits_selectMethod X.admits]; exact q4
  obtain ⟨vm₁, X₁, hstep₁⟩ := X.invokevirtual hexec hown hlink hnamed hmethM hstM hkP hkPi hy (a := b) (cell := cellB) hcell
    (fun z h => by rw [h] at hobj; cases hobj) hselP hmethM habM hkP hkPi (g := g) hg (argsL := argsL) (rest := rest) (hlen _ hsigM) hstack hdg
  obtain ⟨v, B, X', hpost, hsteps⟩ := hK m meth c ⟨T.setVm vm₁, locs, cells, slots⟩ { g with stack := rest } (.invokevirtual index) mk (Value.ref b :: argsL).toArray X₁ hg hsize hdg hW (X₁.named hnamed) (hpre vm₁ X₁.warmed)
  exact ⟨v, vm₁, B, X₁.warmed, X', hpost, fun target h => hstep₁ _ fun acts => by rw [doInvoke_state]; exact hsteps.trans h⟩
abbrev vx_CVW (R : Room) (s : State) (args : Array Value) (own C : String) (index : Nat) (y : MethodName) (bytes : ByteArray) (maxL : Nat) (ret : Option FieldType) (hh : List (Nat × Nat × Nat × Nat)) (ws : List Cond) (rm : Room) (mc ms n : Nat) : Prop :=
  (rm.cells = mc ∧ rm.slots = ms ∧ rm.frames + 1 ≤ R.frames ∧ 8 + (maxL + 11) + rm.locals ≤ R.locals ∧ (∀ w ∈ ws, ∀ (a' : Array Value) (U : State), s.WarmedH U.vm → w.before a' U = true) ∧ Cond.codeWith y bytes maxL ret hh ∈ ws) ∧
  (Cond.codeWith y bytes maxL ret hh).before args s = true ∧ (Cond.initialized y.cls).before args s = true ∧ (y.cls ≠ "java/lang/invoke/MethodHandle" ∧ y.cls ≠ "java/lang/invoke/VarHandle") ∧
  (∀ sig, parseMethodDescriptor y.desc = some sig → n = sig.parameters.length) ∧ (Cond.methodLink own index y).before args s = true ∧ (Cond.instanceMethod y).before args s = true ∧ (Cond.selects C y y).before args s = true
theorem vx_cwVW {own C : String} {index maxL mc ms : Nat} {y : MethodName} {bytes : ByteArray} {ret : Option FieldType} {hh : List (Nat × Nat × Nat × Nat)} {Ts ws ws' : List Cond} {rm : Room} (n : Nat) (ht : ∀ w ∈ Ts, w.before args s = true) (hT : GoodIn Ts (wsV own index C y ws)) (hw : ws = Cond.codeWith y bytes maxL ret hh :: ws') (hrc : rm.cells = mc) (hrs : rm.slots = ms)
    (hd : y.cls = C ∧ y.cls ≠ "java/lang/invoke/MethodHandle" ∧ y.cls ≠ "java/lang/invoke/VarHandle" ∧ (parseMethodDescriptor y.desc).map (fun d => d.parameters.length) = some n) (hR : rm.frames + 1 ≤ R.frames ∧ 8 + (maxL + 11) + rm.locals ≤ R.locals) :
    vx_CVW R s args own C index y bytes maxL ret hh ws rm mc ms n := by
  obtain ⟨hC, hd⟩ := hd
  subst hC
  have ok : ∀ w ∈ wsV own index y.cls y ws, w.before args s = true := fun w h => ht w (hT w h).1
  have hG : GoodIn Ts ws := fun w h => hT w (by unfold wsV; exact List.mem_append_right _ h)
  have hc : Cond.codeWith y bytes maxL ret hh ∈ ws := by rw [hw]; exact List.mem_cons_self
  refine ⟨⟨hrc, hrs, hR.1, hR.2, pay_in ht hG, hc⟩, ht _ (hG _ hc).1, ok _ (by simp [wsV]), ⟨hd.1, hd.2.1⟩, fun sig h => ?_, ok _ (by simp [wsV]), ok _ (by simp [wsV]), ok _ (by simp [wsV])⟩
  have h2 := hd.2.2
  rw [h] at h2
  exact (Option.some.inj h2).symm
theorem vx_runVW {y : MethodName} {bytes cc : ByteArray} {maxL nL mc ms n index : Nat} {ret : Option FieldType} {hh : List (Nat × Nat × Nat × Nat)} {ws : List Cond} {rm : Room} {Pc : Array Value → State → Prop} {Qc : Array Value → State → Outcome → State → Prop} {free : Addr → Prop} {Ts : List Cond} {own C : String} {b : Addr} {As rest : List Value} {g : JFrame}
    (S : CallFix p m c cc nL s args Ts own) (hM : Met l y ws rm Pc Qc mc ms free) (cw : vx_CVW R s args own C index y bytes maxL ret hh ws rm mc ms n) (hp : PreV s H C b Pc As)
    (hg : g.method = m) (hn : As.length = n) (hsize : g.locals.size = nL) (hstack : g.stack = As.reverse ++ .ref b :: rest) (hW : 2 * g.monitorRoom + (rest.map fun v => v.category).sum ≤ 8) (hdg : decode cc g.pc = .ok (.invokevirtual index, 3)) (hf : cells + mc ≤ R.cells ∧ slots + ms ≤ R.slots) :
    va_Run p l e R s m args below meth c H locs cells slots mc ms g rest (Qc (Value.ref b :: As).toArray) free := by
  obtain ⟨⟨hrc, hrs, hfr, hlo, hws, hcw⟩, hcode, hini, hy, hlen, hl, hin, hse⟩ := cw
  have hK : Back l R p e below s args y 3 8 (PreOf R mc ms Pc) (PostOf Qc mc ms free) := va_backW (hh := hh) (bytes := bytes) (maxL := maxL) (ret := ret) hM hp.1 hrc hrs hfr hlo hws hcw (fun a' U hW => word_at hW (Or.inl (by first | rfl | simp [Cond.onTables, Cond.keeps, Cond.steady])) hini)
  obtain ⟨hx, hb, hml, ho, -⟩ := S
  obtain ⟨-, ⟨cellB, hcB, hoB, hclB⟩, hPc⟩ := hp
  intro T hT X
  obtain ⟨v, vm₁, ⟨U', l2, c2, s2⟩, hW₁, X', ⟨g', mk, t, L, e1, e2, hq, h1, hL, h2, h3⟩, st⟩ := vx_callVW X hx (C := C) (hh := hh) (bytes := bytes) (maxL := maxL) (ret := ret) ho hl hin hse hcode hy hK (by rw [hT]; exact hcB) hoB hclB hg (hsize.trans hml.symm) (argsL := As) (rest := rest) (fun sig h => hn.trans (hlen sig h)) hstack hW (by rw [hb]; exact hdg)
    (fun vm₁ hW₁ => ⟨hf.1, hf.2, hPc (T.setVm vm₁) hT hW₁⟩)
  dsimp only [Pt.U, Pt.locs, Pt.cells, Pt.slots] at X' e1 e2 h1 h2 h3 st
  subst h1; subst h2; subst h3
  exact ⟨v, (T.setVm vm₁).calling g' mk (Value.ref b :: As).toArray, t, U', L, hT, X', hL, e1, e2, hq, st⟩
section
variable {y : MethodName} {bytes cc : ByteArray} {maxL nL mc ms n index : Nat} {ret : Option FieldType} {ws : List Cond} {rm : Room} {Pc : Array Value → State → Prop} {Qc : Array Value → State → Outcome → State → Prop} {XC : String → State → State → Prop} {free : Addr → Prop} {Ts : List Cond} {own C : String} {b : Addr} {As rest : List Value} {g : JFrame}
theorem vx_runVX {hh : List (Nat × Nat × Nat × Nat)} (S : CallFix p m c cc nL s args Ts own) (hM : vx_Met l y ws rm Pc Qc XC mc ms free) (cw : vx_CVW R s args own C index y bytes maxL ret hh ws rm mc ms n) (hp : PreV s H C b Pc As)
    (hg : g.method = m) (hn : As.length = n) (hsize : g.locals.size = nL) (hstack : g.stack = As.reverse ++ .ref b :: rest) (hW : 2 * g.monitorRoom + (rest.map fun v => v.category).sum ≤ 8) (hdg : decode cc g.pc = .ok (.invokevirtual index, 3)) (hf : cells + mc ≤ R.cells ∧ slots + ms ≤ R.slots) :
    vx_Run p l e R s m args below meth c H locs cells slots mc ms g rest (Qc (Value.ref b :: As).toArray) XC free := by
  obtain ⟨⟨hrc, hrs, hfr, hlo, hws, hcw⟩, hcode, hini, hy, hlen, hl, hin, hse⟩ := cw
  have hK : vx_Back l R p e below s args y 3 8 (PreOf R mc ms Pc) (PostOf Qc mc ms free) (vx_Post XC mc ms free) := vx_backW (hh := hh) (bytes := bytes) (maxL := maxL) (ret := ret) hM hp.1 hrc hrs hfr hlo hws hcw (fun a' U hW => word_at hW (Or.inl (by first | rfl | simp [Cond.onTables, Cond.keeps, Cond.steady])) hini)
  obtain ⟨hx, hb, hml, ho, -⟩ := S
  obtain ⟨-, ⟨cellB, hcB, hoB, hclB⟩, hPc⟩ := hp
  intro T hT X
  rcases vx_callVX X hx (C := C) (hh := hh) (bytes := bytes) (maxL := maxL) (ret := ret) ho hl hin hse hcode hy hK (by rw [hT]; exact hcB) hoB hclB hg (hsize.trans hml.symm) (argsL := As) (rest := rest) (fun sig h => hn.trans (hlen sig h)) hstack hW (by rw [hb]; exact hdg)
    (fun vm₁ hW₁ => ⟨hf.1, hf.2, hPc (T.setVm vm₁) hT hW₁⟩) with ⟨v, vm₁, ⟨U', l2, c2, s2⟩, hW₁, X', ⟨g', mk, t, L, e1, e2, hq, h1, hL, h2, h3⟩, st⟩ | ⟨q, vm₁, ⟨U', l2, c2, s2⟩, hW₁, X', ⟨g', mk, t, L, E, ce, e1, e2, hq, hce, hcv, hcl, h1, hL, h2, h3⟩, st⟩
  · dsimp only [Pt.U, Pt.locs, Pt.cells, Pt.slots] at X' e1 e2 h1 h2 h3 st
    subst h1; subst h2; subst h3
    exact Or.inl ⟨v, (T.setVm vm₁).calling g' mk (Value.ref b :: As).toArray, t, U', L, hT, X', hL, e1, e2, hq, st⟩
  · dsimp only [Pt.U, Pt.locs, Pt.cells, Pt.slots] at X' e1 e2 h1 h2 h3 st hcl
    subst h1; subst h2; subst h3
    exact Or.inr ⟨q, (T.setVm vm₁).calling g' mk (Value.ref b :: As).toArray, t, U', L, E, ce, hT, X', hL, e1, e2, hq, hce, hcv, vx_cls hW₁ hcl, st⟩
theorem vx_runSX {hh : List (Nat × Nat × Nat × Nat)} (S : CallFix p m c cc nL s args Ts own) (hM : vx_Met l y ws rm Pc Qc XC mc ms free) (cw : vx_CSW R s args own index y bytes maxL ret hh ws rm mc ms n) (hp : PreS s H Pc As)
    (hg : g.method = m) (hn : As.length = n) (hsize : g.locals.size = nL) (hstack : g.stack = As.reverse ++ rest) (hW : 2 * g.monitorRoom + (rest.map fun v => v.category).sum ≤ 8) (hdg : decode cc g.pc = .ok (.invokestatic index, 3)) (hf : cells + mc ≤ R.cells ∧ slots + ms ≤ R.slots) :
    vx_Run p l e R s m args below meth c H locs cells slots mc ms g rest (Qc As.toArray) XC free := by
  obtain ⟨⟨hrc, hrs, hfr, hlo, hws, hcw⟩, hcode, hini, hy, hlen, hl, hstt⟩ := cw
  have hK : vx_Back l R p e below s args y 3 8 (PreOf R mc ms Pc) (PostOf Qc mc ms free) (vx_Post XC mc ms free) := vx_backW (hh := hh) (bytes := bytes) (maxL := maxL) (ret := ret) hM hp.1 hrc hrs hfr hlo hws hcw (fun a' U hW => word_at hW (Or.inl (by first | rfl | simp [Cond.onTables, Cond.keeps, Cond.steady])) hini)
  obtain ⟨hx, hb, hml, ho, -⟩ := S
  intro T hT X
  rcases vx_callSX X hx (hh := hh) (bytes := bytes) (maxL := maxL) (ret := ret) ho hl hstt hini hcode hy hK hg (hsize.trans hml.symm) (argsL := As) (rest := rest) (fun sig h => hn.trans (hlen sig h)) hstack hW (by rw [hb]; exact hdg)
    (fun vm₁ hW₁ => ⟨hf.1, hf.2, hp.2 (T.setVm vm₁) hT hW₁⟩) with ⟨v, vm₁, ⟨U', l2, c2, s2⟩, hW₁, X', ⟨g', mk, t, L, e1, e2, hq, h1, hL, h2, h3⟩, st⟩ | ⟨q, vm₁, ⟨U', l2, c2, s2⟩, hW₁, X', ⟨g', mk, t, L, E, ce, e1, e2, hq, hce, hcv, hcl, h1, hL, h2, h3⟩, st⟩
  · dsimp only [Pt.U, Pt.locs, Pt.cells, Pt.slots] at X' e1 e2 h1 h2 h3 st
    subst h1; subst h2; subst h3
    exact Or.inl ⟨v, (T.setVm vm₁).calling g' mk As.toArray, t, U', L, hT, X', hL, e1, e2, hq, st⟩
  · dsimp only [Pt.U, Pt.locs, Pt.cells, Pt.slots] at X' e1 e2 h1 h2 h3 st hcl
    subst h1; subst h2; subst h3
    exact Or.inr ⟨q, (T.setVm vm₁).calling g' mk As.toArray, t, U', L, E, ce, hT, X', hL, e1, e2, hq, hce, hcv, vx_cls hW₁ hcl, st⟩
end
end VXH
theorem vx_ofWH {l : Launch} {y : MethodName} {ws ws' : List Cond} {rm : Room} {Pc : Array Value → State → Prop} {Qc : Array Value → State → Outcome → State → Prop} {XC : String → State → State → Prop} {mc ms : Nat} {free : Addr → Prop} {cc : ByteArray} {maxL : Nat} {ret : Option FieldType} {hh : List (Nat × Nat × Nat × Nat)}
    (hy : plainName y.cls = true) (hw : ws = Cond.codeWith y cc maxL ret hh :: ws')
    (body : ∀ p e s m args below meth c s₁, BodyLoose p l y (headSpec ws rm) cc maxL ret e s m args below meth c s₁ → c.maxLocals = maxL → Pc args s →
      W p l e (headSpec ws rm).room s m args below meth c s.heap [] 0 0 (vx_MQ below Qc XC args s mc ms free) (entryFrame m args maxL)) : vx_Met l y ws rm Pc Qc XC mc ms free := by
  refine MetFree.of_bodyS (code := cc) (maxLocals := maxL) (ret := ret) hy ?_ ?_
  · intro args s m h hn
    obtain ⟨m9, meth, c, hn9, h1, h2, h3, h4, -, h5, h6, -⟩ := Cond.codeWith_spec (atoms_spec (ws := ws) h _ (by rw [hw]; exact List.mem_cons_self))
    cases hn.symm.trans hn9
    exact ⟨meth, c, h1, h2, h3, h4, h5, h6⟩
  · intro p e s m args below meth c s₁ B hml hP _
    have hh0 : s₁.heap = s.heap := by rw [B.state]; rfl
    obtain ⟨t, a1, o, b1, b2, b3⟩ := body p e s m args below meth c s₁ B hml hP s₁ hh0 (Stand.of_body B)
    exact ⟨t, o, a1, b1, b2, b3⟩
/-! ===== END ===== -/
end
section
/-! names: classes, fields, methods, words of the tables, by program out of the claim (own program wip/gen/mknames.py) -/
def allW : List Cond := lw_tbl.filter goodWord
theorem aw {w : Cond} (k : Nat) (h : lw_tbl[k]? = some w) (g : goodWord w = true) : w ∈ allW := List.mem_filter.mpr ⟨List.mem_of_getElem? h, g⟩
abbrev RX0 : String := "ShareStatistics$Definitions"
def TX0 : u_T := fun k => match k with
  | 0 => ("ShareStatistics$Definitions", "days", "[I", true)
  | 1 => ("ShareStatistics$Definitions", "limits", "[I", true)
  | _ => ("ShareStatistics$Definitions", "size", "I", false)
def tyX0 : Nat → FieldType := fun k => match k with
  | 0 => .array .int
  | 1 => .array .int
  | _ => .int
theorem nmX0 : ∀ a, a < 3 → ∀ b, b < 3 → a ≠ b → (TX0 a).2.1 ≠ (TX0 b).2.1 := by decide +kernel
theorem tyX0_ok : ∀ k, k < 3 → parseFieldDescriptor (TX0 k).2.2.1 = some (tyX0 k) := by decide +kernel
theorem iw_X0 : ∀ w ∈ u_ws RX0 TX0 3, w ∈ allW := by
  intro w hw
  refine List.mem_filter.mpr ⟨?_, ?_⟩
  · revert w; decide +kernel
  · revert w; decide +kernel
abbrev RX1 : String := "ShareStatistics$Incidents"
def TX1 : u_T := fun k => match k with
  | 0 => ("ShareStatistics$Incidents", "days", "[I", true)
  | 1 => ("ShareStatistics$Incidents", "hours", "[I", true)
  | 2 => ("ShareStatistics$Incidents", "kinds", "[I", true)
  | 3 => ("ShareStatistics$Incidents", "areas", "[I", true)
  | 4 => ("ShareStatistics$Incidents", "stations", "[I", true)
  | 5 => ("ShareStatistics$Incidents", "marks", "[I", true)
  | 6 => ("ShareStatistics$Incidents", "turnOuts", "[I", true)
  | 7 => ("ShareStatistics$Incidents", "travels", "[I", true)
  | 8 => ("ShareStatistics$Incidents", "sortedSums", "[I", true)
  | _ => ("ShareStatistics$Incidents", "size", "I", false)
def tyX1 : Nat → FieldType := fun k => match k with
  | 0 => .array .int
  | 1 => .array .int
  | 2 => .array .int
  | 3 => .array .int
  | 4 => .array .int
  | 5 => .array .int
  | 6 => .array .int
  | 7 => .array .int
  | 8 => .array .int
  | _ => .int
theorem nmX1 : ∀ a, a < 10 → ∀ b, b < 10 → a ≠ b → (TX1 a).2.1 ≠ (TX1 b).2.1 := by decide +kernel
theorem tyX1_ok : ∀ k, k < 10 → parseFieldDescriptor (TX1 k).2.2.1 = some (tyX1 k) := by decide +kernel
theorem iw_X1 : ∀ w ∈ u_ws RX1 TX1 10, w ∈ allW := by
  intro w hw
  refine List.mem_filter.mpr ⟨?_, ?_⟩
  · revert w; decide +kernel
  · revert w; decide +kernel
abbrev RX2 : String := "ShareStatistics$Secrecy"
def TX2 : u_T := fun k => match k with
  | 0 => ("ShareStatistics$Secrecy", "rowsOfArea", "[I", true)
  | 1 => ("ShareStatistics$Secrecy", "isJoined", "[Z", true)
  | 2 => ("ShareStatistics$Secrecy", "lowestShown", "I", false)
  | _ => ("ShareStatistics$Secrecy", "together", "I", false)
def tyX2 : Nat → FieldType := fun k => match k with
  | 0 => .array .int
  | 1 => .array .boolean
  | 2 => .int
  | _ => .int
theorem nmX2 : ∀ a, a < 4 → ∀ b, b < 4 → a ≠ b → (TX2 a).2.1 ≠ (TX2 b).2.1 := by decide +kernel
theorem tyX2_ok : ∀ k, k < 4 → parseFieldDescriptor (TX2 k).2.2.1 = some (tyX2 k) := by decide +kernel
theorem iw_X2 : ∀ w ∈ u_ws RX2 TX2 4, w ∈ allW := by
  intro w hw
  refine List.mem_filter.mpr ⟨?_, ?_⟩
  · revert w; decide +kernel
  · revert w; decide +kernel
abbrev RX3 : String := "ShareStatistics$Trend"
def TX3 : u_T := fun k => match k with
  | 0 => ("ShareStatistics$Trend", "counts", "[I", true)
  | _ => ("ShareStatistics$Trend", "periods", "I", false)
def tyX3 : Nat → FieldType := fun k => match k with
  | 0 => .array .int
  | _ => .int
theorem nmX3 : ∀ a, a < 2 → ∀ b, b < 2 → a ≠ b → (TX3 a).2.1 ≠ (TX3 b).2.1 := by decide +kernel
theorem tyX3_ok : ∀ k, k < 2 → parseFieldDescriptor (TX3 k).2.2.1 = some (tyX3 k) := by decide +kernel
theorem iw_X3 : ∀ w ∈ u_ws RX3 TX3 2, w ∈ allW := by
  intro w hw
  refine List.mem_filter.mpr ⟨?_, ?_⟩
  · revert w; decide +kernel
  · revert w; decide +kernel
abbrev RX4 : String := "ShareStatistics"
def TX4 : u_T := fun k => match k with
  | 0 => ("ShareStatistics", "definitions", "LShareStatistics$Definitions;", true)
  | 1 => ("ShareStatistics", "incidents", "LShareStatistics$Incidents;", true)
  | 2 => ("ShareStatistics", "trendCounts", "LShareStatistics$Trend;", true)
  | 3 => ("ShareStatistics", "secrecy", "LShareStatistics$Secrecy;", true)
  | 4 => ("ShareStatistics", "peopleOfArea", "[I", true)
  | 5 => ("ShareStatistics", "askedFrom", "I", false)
  | 6 => ("ShareStatistics", "askedTo", "I", false)
  | 7 => ("ShareStatistics", "askedKind", "I", false)
  | _ => ("ShareStatistics", "askedArea", "I", false)
def tyX4 : Nat → FieldType := fun k => match k with
  | 0 => .object "ShareStatistics$Definitions"
  | 1 => .object "ShareStatistics$Incidents"
  | 2 => .object "ShareStatistics$Trend"
  | 3 => .object "ShareStatistics$Secrecy"
  | 4 => .array .int
  | 5 => .int
  | 6 => .int
  | 7 => .int
  | _ => .int
theorem nmX4 : ∀ a, a < 9 → ∀ b, b < 9 → a ≠ b → (TX4 a).2.1 ≠ (TX4 b).2.1 := by decide +kernel
theorem tyX4_ok : ∀ k, k < 9 → parseFieldDescriptor (TX4 k).2.2.1 = some (tyX4 k) := by decide +kernel
theorem iw_X4 : ∀ w ∈ u_ws RX4 TX4 9, w ∈ allW := by
  intro w hw
  refine List.mem_filter.mpr ⟨?_, ?_⟩
  · revert w; decide +kernel
  · revert w; decide +kernel
abbrev RX5 : String := "ShareStatisticsModel"
def TX5 : u_T := fun k => match k with
  | 0 => ("ShareStatisticsModel", "thrown", "I", false)
  | 1 => ("ShareStatisticsModel", "rows", "I", false)
  | 2 => ("ShareStatisticsModel", "day", "[I", true)
  | 3 => ("ShareStatisticsModel", "hour", "[I", true)
  | 4 => ("ShareStatisticsModel", "kind", "[I", true)
  | 5 => ("ShareStatisticsModel", "area", "[I", true)
  | 6 => ("ShareStatisticsModel", "station", "[I", true)
  | 7 => ("ShareStatisticsModel", "wrong", "[Z", true)
  | 8 => ("ShareStatisticsModel", "hidden", "[Z", true)
  | 9 => ("ShareStatisticsModel", "turnOut", "[I", true)
  | 10 => ("ShareStatisticsModel", "travel", "[I", true)
  | 11 => ("ShareStatisticsModel", "definitions", "I", false)
  | 12 => ("ShareStatisticsModel", "since", "[I", true)
  | 13 => ("ShareStatisticsModel", "mark", "[I", true)
  | 14 => ("ShareStatisticsModel", "from", "I", false)
  | 15 => ("ShareStatisticsModel", "to", "I", false)
  | 16 => ("ShareStatisticsModel", "askedKind", "I", false)
  | 17 => ("ShareStatisticsModel", "askedArea", "I", false)
  | 18 => ("ShareStatisticsModel", "people", "[I", true)
  | 19 => ("ShareStatisticsModel", "least", "I", false)
  | 20 => ("ShareStatisticsModel", "counts", "[I", true)
  | 21 => ("ShareStatisticsModel", "table", "[I", true)
  | 22 => ("ShareStatisticsModel", "sums", "[I", true)
  | _ => ("ShareStatisticsModel", "isJoined", "[Z", true)
def tyX5 : Nat → FieldType := fun k => match k with
  | 0 => .int
  | 1 => .int
  | 2 => .array .int
  | 3 => .array .int
  | 4 => .array .int
  | 5 => .array .int
  | 6 => .array .int
  | 7 => .array .boolean
  | 8 => .array .boolean
  | 9 => .array .int
  | 10 => .array .int
  | 11 => .int
  | 12 => .array .int
  | 13 => .array .int
  | 14 => .int
  | 15 => .int
  | 16 => .int
  | 17 => .int
  | 18 => .array .int
  | 19 => .int
  | 20 => .array .int
  | 21 => .array .int
  | 22 => .array .int
  | _ => .array .boolean
theorem nmX5 : ∀ a, a < 24 → ∀ b, b < 24 → a ≠ b → (TX5 a).2.1 ≠ (TX5 b).2.1 := by decide +kernel
theorem tyX5_ok : ∀ k, k < 24 → parseFieldDescriptor (TX5 k).2.2.1 = some (tyX5 k) := by decide +kernel
theorem iw_X5 : ∀ w ∈ u_ws RX5 TX5 24, w ∈ allW := by
  intro w hw
  refine List.mem_filter.mpr ⟨?_, ?_⟩
  · revert w; decide +kernel
  · revert w; decide +kernel
abbrev RL : String := "ShareStatisticsLaw"
abbrev clA : List vw_C := [(RX0, TX0, 3), (RX1, TX1, 10), (RX2, TX2, 4), (RX3, TX3, 2), (RX4, TX4, 9), (RX5, TX5, 24)]
abbrev cX4_init : ByteArray := prog_1_method_1_code
abbrev yX4_init : MethodName := ⟨RX4, "<init>", "()V"⟩
abbrev wsX4_init : List Cond := .code yX4_init cX4_init 1 none :: allW
theorem kX4_init : (.code yX4_init cX4_init 1 none : Cond) ∈ allW := aw 51 (by decide +kernel) (by decide +kernel)
abbrev cX4_row : ByteArray := prog_1_method_2_code
abbrev yX4_row : MethodName := ⟨RX4, "row", "(IIIIII)I"⟩
abbrev wsX4_row : List Cond := .code yX4_row cX4_row 7 (some .int) :: allW
theorem kX4_row : (.code yX4_row cX4_row 7 (some .int) : Cond) ∈ allW := aw 235 (by decide +kernel) (by decide +kernel)
abbrev cX4_values : ByteArray := prog_1_method_3_code
abbrev yX4_values : MethodName := ⟨RX4, "values", "(III)V"⟩
abbrev wsX4_values : List Cond := .code yX4_values cX4_values 4 none :: allW
theorem kX4_values : (.code yX4_values cX4_values 4 none : Cond) ∈ allW := aw 358 (by decide +kernel) (by decide +kernel)
abbrev cX4_define : ByteArray := prog_1_method_4_code
abbrev yX4_define : MethodName := ⟨RX4, "define", "(II)I"⟩
abbrev wsX4_define : List Cond := .code yX4_define cX4_define 3 (some .int) :: allW
theorem kX4_define : (.code yX4_define cX4_define 3 (some .int) : Cond) ∈ allW := aw 373 (by decide +kernel) (by decide +kernel)
abbrev cX4_ask : ByteArray := prog_1_method_5_code
abbrev yX4_ask : MethodName := ⟨RX4, "ask", "(IIII)V"⟩
abbrev wsX4_ask : List Cond := .code yX4_ask cX4_ask 5 none :: allW
theorem kX4_ask : (.code yX4_ask cX4_ask 5 none : Cond) ∈ allW := aw 390 (by decide +kernel) (by decide +kernel)
abbrev cX4_count : ByteArray := prog_1_method_6_code
abbrev yX4_count : MethodName := ⟨RX4, "count", "(I)I"⟩
abbrev wsX4_count : List Cond := .code yX4_count cX4_count 2 (some .int) :: allW
theorem kX4_count : (.code yX4_count cX4_count 2 (some .int) : Cond) ∈ allW := aw 400 (by decide +kernel) (by decide +kernel)
abbrev cX4_hour : ByteArray := prog_1_method_7_code
abbrev yX4_hour : MethodName := ⟨RX4, "hour", "(I)I"⟩
abbrev wsX4_hour : List Cond := .code yX4_hour cX4_hour 2 (some .int) :: allW
theorem kX4_hour : (.code yX4_hour cX4_hour 2 (some .int) : Cond) ∈ allW := aw 435 (by decide +kernel) (by decide +kernel)
abbrev cX4_share : ByteArray := prog_1_method_8_code
abbrev yX4_share : MethodName := ⟨RX4, "share", "(I)I"⟩
abbrev wsX4_share : List Cond := .code yX4_share cX4_share 4 (some .int) :: allW
theorem kX4_share : (.code yX4_share cX4_share 4 (some .int) : Cond) ∈ allW := aw 447 (by decide +kernel) (by decide +kernel)
abbrev cX4_placed : ByteArray := prog_1_method_9_code
abbrev yX4_placed : MethodName := ⟨RX4, "placed", "(I)I"⟩
abbrev wsX4_placed : List Cond := .code yX4_placed cX4_placed 2 (some .int) :: allW
theorem kX4_placed : (.code yX4_placed cX4_placed 2 (some .int) : Cond) ∈ allW := aw 487 (by decide +kernel) (by decide +kernel)
abbrev cX4_splits : ByteArray := prog_1_method_10_code
abbrev yX4_splits : MethodName := ⟨RX4, "splits", "()I"⟩
abbrev wsX4_splits : List Cond := .code yX4_splits cX4_splits 1 (some .int) :: allW
theorem kX4_splits : (.code yX4_splits cX4_splits 1 (some .int) : Cond) ∈ allW := aw 173 (by decide +kernel) (by decide +kernel)
abbrev cX4_compare : ByteArray := prog_1_method_11_code
abbrev yX4_compare : MethodName := ⟨RX4, "compare", "(II)I"⟩
abbrev wsX4_compare : List Cond := .code yX4_compare cX4_compare 5 (some .int) :: allW
theorem kX4_compare : (.code yX4_compare cX4_compare 5 (some .int) : Cond) ∈ allW := aw 502 (by decide +kernel) (by decide +kernel)
abbrev cX4_trend : ByteArray := prog_1_method_12_code
abbrev yX4_trend : MethodName := ⟨RX4, "trend", "(IIII)I"⟩
abbrev wsX4_trend : List Cond := .code yX4_trend cX4_trend 7 (some .int) :: allW
theorem kX4_trend : (.code yX4_trend cX4_trend 7 (some .int) : Cond) ∈ allW := aw 512 (by decide +kernel) (by decide +kernel)
abbrev cX4_people : ByteArray := prog_1_method_13_code
abbrev yX4_people : MethodName := ⟨RX4, "people", "(II)V"⟩
abbrev wsX4_people : List Cond := .code yX4_people cX4_people 3 none :: allW
theorem kX4_people : (.code yX4_people cX4_people 3 none : Cond) ∈ allW := aw 553 (by decide +kernel) (by decide +kernel)
abbrev cX4_perThousand : ByteArray := prog_1_method_14_code
abbrev yX4_perThousand : MethodName := ⟨RX4, "perThousand", "(I)I"⟩
abbrev wsX4_perThousand : List Cond := .code yX4_perThousand cX4_perThousand 3 (some .int) :: allW
theorem kX4_perThousand : (.code yX4_perThousand cX4_perThousand 3 (some .int) : Cond) ∈ allW := aw 561 (by decide +kernel) (by decide +kernel)
abbrev cX4_rank : ByteArray := prog_1_method_15_code
abbrev yX4_rank : MethodName := ⟨RX4, "rank", "(I)I"⟩
abbrev wsX4_rank : List Cond := .code yX4_rank cX4_rank 5 (some .int) :: allW
theorem kX4_rank : (.code yX4_rank cX4_rank 5 (some .int) : Cond) ∈ allW := aw 573 (by decide +kernel) (by decide +kernel)
abbrev cX4_least : ByteArray := prog_1_method_16_code
abbrev yX4_least : MethodName := ⟨RX4, "least", "(I)V"⟩
abbrev wsX4_least : List Cond := .code yX4_least cX4_least 2 none :: allW
theorem kX4_least : (.code yX4_least cX4_least 2 none : Cond) ∈ allW := aw 580 (by decide +kernel) (by decide +kernel)
abbrev cX4_shown : ByteArray := prog_1_method_17_code
abbrev yX4_shown : MethodName := ⟨RX4, "shown", "(I)I"⟩
abbrev wsX4_shown : List Cond := .code yX4_shown cX4_shown 2 (some .int) :: allW
theorem kX4_shown : (.code yX4_shown cX4_shown 2 (some .int) : Cond) ∈ allW := aw 591 (by decide +kernel) (by decide +kernel)
abbrev cX4_joined : ByteArray := prog_1_method_18_code
abbrev yX4_joined : MethodName := ⟨RX4, "joined", "()I"⟩
abbrev wsX4_joined : List Cond := .code yX4_joined cX4_joined 1 (some .int) :: allW
theorem kX4_joined : (.code yX4_joined cX4_joined 1 (some .int) : Cond) ∈ allW := aw 189 (by decide +kernel) (by decide +kernel)
abbrev cX4_work : ByteArray := prog_1_method_19_code
abbrev yX4_work : MethodName := ⟨RX4, "work", "(II)I"⟩
abbrev wsX4_work : List Cond := .code yX4_work cX4_work 3 (some .int) :: allW
theorem kX4_work : (.code yX4_work cX4_work 3 (some .int) : Cond) ∈ allW := aw 602 (by decide +kernel) (by decide +kernel)
abbrev cX4_askedTotal : ByteArray := prog_1_method_20_code
abbrev yX4_askedTotal : MethodName := ⟨RX4, "askedTotal", "(III)I"⟩
abbrev wsX4_askedTotal : List Cond := .code yX4_askedTotal cX4_askedTotal 4 (some .int) :: allW
theorem kX4_askedTotal : (.code yX4_askedTotal cX4_askedTotal 4 (some .int) : Cond) ∈ allW := aw 404 (by decide +kernel) (by decide +kernel)
abbrev cX4_rowsWithin : ByteArray := prog_1_method_21_code
abbrev yX4_rowsWithin : MethodName := ⟨RX4, "rowsWithin", "(II)I"⟩
abbrev wsX4_rowsWithin : List Cond := .code yX4_rowsWithin cX4_rowsWithin 3 (some .int) :: allW
theorem kX4_rowsWithin : (.code yX4_rowsWithin cX4_rowsWithin 3 (some .int) : Cond) ∈ allW := aw 451 (by decide +kernel) (by decide +kernel)
abbrev cX4_rowsNotWithout : ByteArray := prog_1_method_22_code
abbrev yX4_rowsNotWithout : MethodName := ⟨RX4, "rowsNotWithout", "(II)I"⟩
abbrev wsX4_rowsNotWithout : List Cond := .code yX4_rowsNotWithout cX4_rowsNotWithout 3 (some .int) :: allW
theorem kX4_rowsNotWithout : (.code yX4_rowsNotWithout cX4_rowsNotWithout 3 (some .int) : Cond) ∈ allW := aw 455 (by decide +kernel) (by decide +kernel)
abbrev cX4_rowsOfArea : ByteArray := prog_1_method_23_code
abbrev yX4_rowsOfArea : MethodName := ⟨RX4, "rowsOfArea", "(I)I"⟩
abbrev wsX4_rowsOfArea : List Cond := .code yX4_rowsOfArea cX4_rowsOfArea 2 (some .int) :: allW
theorem kX4_rowsOfArea : (.code yX4_rowsOfArea cX4_rowsOfArea 2 (some .int) : Cond) ∈ allW := aw 566 (by decide +kernel) (by decide +kernel)
abbrev cX4_refuseUnknown : ByteArray := prog_1_method_24_code
abbrev yX4_refuseUnknown : MethodName := ⟨RX4, "refuseUnknown", "(II)V"⟩
abbrev wsX4_refuseUnknown : List Cond := .code yX4_refuseUnknown cX4_refuseUnknown 2 none :: allW
theorem kX4_refuseUnknown : (.code yX4_refuseUnknown cX4_refuseUnknown 2 none : Cond) ∈ allW := aw 238 (by decide +kernel) (by decide +kernel)
abbrev cX4_refuseOutside : ByteArray := prog_1_method_25_code
abbrev yX4_refuseOutside : MethodName := ⟨RX4, "refuseOutside", "(III)V"⟩
abbrev wsX4_refuseOutside : List Cond := .code yX4_refuseOutside cX4_refuseOutside 3 none :: allW
theorem kX4_refuseOutside : (.code yX4_refuseOutside cX4_refuseOutside 3 none : Cond) ∈ allW := aw 310 (by decide +kernel) (by decide +kernel)
abbrev cX4_refuseNoSpan : ByteArray := prog_1_method_26_code
abbrev yX4_refuseNoSpan : MethodName := ⟨RX4, "refuseNoSpan", "(II)V"⟩
abbrev wsX4_refuseNoSpan : List Cond := .code yX4_refuseNoSpan cX4_refuseNoSpan 2 none :: allW
theorem kX4_refuseNoSpan : (.code yX4_refuseNoSpan cX4_refuseNoSpan 2 none : Cond) ∈ allW := aw 393 (by decide +kernel) (by decide +kernel)
abbrev cX4_refuseNoShare : ByteArray := prog_1_method_27_code
abbrev yX4_refuseNoShare : MethodName := ⟨RX4, "refuseNoShare", "(I)V"⟩
abbrev wsX4_refuseNoShare : List Cond := .code yX4_refuseNoShare cX4_refuseNoShare 1 none :: allW
theorem kX4_refuseNoShare : (.code yX4_refuseNoShare cX4_refuseNoShare 1 none : Cond) ∈ allW := aw 458 (by decide +kernel) (by decide +kernel)
abbrev cX4_inLowestTerms : ByteArray := prog_1_method_28_code
abbrev yX4_inLowestTerms : MethodName := ⟨RX4, "inLowestTerms", "(III)I"⟩
abbrev wsX4_inLowestTerms : List Cond := .code yX4_inLowestTerms cX4_inLowestTerms 4 (some .int) :: allW
theorem kX4_inLowestTerms : (.code yX4_inLowestTerms cX4_inLowestTerms 4 (some .int) : Cond) ∈ allW := aw 477 (by decide +kernel) (by decide +kernel)
abbrev cX4_commonDivisor : ByteArray := prog_1_method_29_code
abbrev yX4_commonDivisor : MethodName := ⟨RX4, "commonDivisor", "(II)I"⟩
abbrev wsX4_commonDivisor : List Cond := .code yX4_commonDivisor cX4_commonDivisor 6 (some .int) :: allW
theorem kX4_commonDivisor : (.code yX4_commonDivisor cX4_commonDivisor 6 (some .int) : Cond) ∈ allW := aw 480 (by decide +kernel) (by decide +kernel)
abbrev cX5_init : ByteArray := prog_7_method_1_code
abbrev yX5_init : MethodName := ⟨RX5, "<init>", "()V"⟩
abbrev wsX5_init : List Cond := .code yX5_init cX5_init 1 none :: allW
theorem kX5_init : (.code yX5_init cX5_init 1 none : Cond) ∈ allW := aw 619 (by decide +kernel) (by decide +kernel)
abbrev cX5_thrownBy : ByteArray := prog_7_method_2_code
abbrev yX5_thrownBy : MethodName := ⟨RX5, "thrownBy", "(ZZZ)I"⟩
abbrev wsX5_thrownBy : List Cond := .code yX5_thrownBy cX5_thrownBy 4 (some .int) :: allW
theorem kX5_thrownBy : (.code yX5_thrownBy cX5_thrownBy 4 (some .int) : Cond) ∈ allW := aw 715 (by decide +kernel) (by decide +kernel)
abbrev cX5_thrown : ByteArray := prog_7_method_3_code
abbrev yX5_thrown : MethodName := ⟨RX5, "thrown", "()I"⟩
abbrev wsX5_thrown : List Cond := .code yX5_thrown cX5_thrown 1 (some .int) :: allW
theorem kX5_thrown : (.code yX5_thrown cX5_thrown 1 (some .int) : Cond) ∈ allW := aw 697 (by decide +kernel) (by decide +kernel)
abbrev cX5_throwing : ByteArray := prog_7_method_4_code
abbrev yX5_throwing : MethodName := ⟨RX5, "throwing", "(ZZZ)Z"⟩
abbrev wsX5_throwing : List Cond := .code yX5_throwing cX5_throwing 4 (some .boolean) :: allW
theorem kX5_throwing : (.code yX5_throwing cX5_throwing 4 (some .boolean) : Cond) ∈ allW := aw 711 (by decide +kernel) (by decide +kernel)
abbrev cX5_in : ByteArray := prog_7_method_5_code
abbrev yX5_in : MethodName := ⟨RX5, "in", "(III)Z"⟩
abbrev wsX5_in : List Cond := .code yX5_in cX5_in 3 (some .boolean) :: allW
theorem kX5_in : (.code yX5_in cX5_in 3 (some .boolean) : Cond) ∈ allW := aw 704 (by decide +kernel) (by decide +kernel)
abbrev cX5_isDay : ByteArray := prog_7_method_6_code
abbrev yX5_isDay : MethodName := ⟨RX5, "isDay", "(I)Z"⟩
abbrev wsX5_isDay : List Cond := .code yX5_isDay cX5_isDay 1 (some .boolean) :: allW
theorem kX5_isDay : (.code yX5_isDay cX5_isDay 1 (some .boolean) : Cond) ∈ allW := aw 707 (by decide +kernel) (by decide +kernel)
abbrev cX5_row : ByteArray := prog_7_method_7_code
abbrev yX5_row : MethodName := ⟨RX5, "row", "(IIIIII)I"⟩
abbrev wsX5_row : List Cond := .code yX5_row cX5_row 8 (some .int) :: allW
theorem kX5_row : (.code yX5_row cX5_row 8 (some .int) : Cond) ∈ allW := aw 701 (by decide +kernel) (by decide +kernel)
abbrev cX5_values : ByteArray := prog_7_method_8_code
abbrev yX5_values : MethodName := ⟨RX5, "values", "(III)V"⟩
abbrev wsX5_values : List Cond := .code yX5_values cX5_values 4 none :: allW
theorem kX5_values : (.code yX5_values cX5_values 4 none : Cond) ∈ allW := aw 719 (by decide +kernel) (by decide +kernel)
abbrev cX5_define : ByteArray := prog_7_method_9_code
abbrev yX5_define : MethodName := ⟨RX5, "define", "(II)I"⟩
abbrev wsX5_define : List Cond := .code yX5_define cX5_define 3 (some .int) :: allW
theorem kX5_define : (.code yX5_define cX5_define 3 (some .int) : Cond) ∈ allW := aw 723 (by decide +kernel) (by decide +kernel)
abbrev cX5_ask : ByteArray := prog_7_method_10_code
abbrev yX5_ask : MethodName := ⟨RX5, "ask", "(IIII)V"⟩
abbrev wsX5_ask : List Cond := .code yX5_ask cX5_ask 5 none :: allW
theorem kX5_ask : (.code yX5_ask cX5_ask 5 none : Cond) ∈ allW := aw 727 (by decide +kernel) (by decide +kernel)
abbrev cX5_fits : ByteArray := prog_7_method_11_code
abbrev yX5_fits : MethodName := ⟨RX5, "fits", "(IIIII)Z"⟩
abbrev wsX5_fits : List Cond := .code yX5_fits cX5_fits 6 (some .boolean) :: allW
theorem kX5_fits : (.code yX5_fits cX5_fits 6 (some .boolean) : Cond) ∈ allW := aw 739 (by decide +kernel) (by decide +kernel)
abbrev cX5_isAsked : ByteArray := prog_7_method_12_code
abbrev yX5_isAsked : MethodName := ⟨RX5, "isAsked", "(I)Z"⟩
abbrev wsX5_isAsked : List Cond := .code yX5_isAsked cX5_isAsked 2 (some .boolean) :: allW
theorem kX5_isAsked : (.code yX5_isAsked cX5_isAsked 2 (some .boolean) : Cond) ∈ allW := aw 735 (by decide +kernel) (by decide +kernel)
abbrev cX5_hasBoth : ByteArray := prog_7_method_13_code
abbrev yX5_hasBoth : MethodName := ⟨RX5, "hasBoth", "(I)Z"⟩
abbrev wsX5_hasBoth : List Cond := .code yX5_hasBoth cX5_hasBoth 2 (some .boolean) :: allW
theorem kX5_hasBoth : (.code yX5_hasBoth cX5_hasBoth 2 (some .boolean) : Cond) ∈ allW := aw 751 (by decide +kernel) (by decide +kernel)
abbrev cX5_markOf : ByteArray := prog_7_method_14_code
abbrev yX5_markOf : MethodName := ⟨RX5, "markOf", "(I)I"⟩
abbrev wsX5_markOf : List Cond := .code yX5_markOf cX5_markOf 4 (some .int) :: allW
theorem kX5_markOf : (.code yX5_markOf cX5_markOf 4 (some .int) : Cond) ∈ allW := aw 755 (by decide +kernel) (by decide +kernel)
abbrev cX5_isWithout : ByteArray := prog_7_method_15_code
abbrev yX5_isWithout : MethodName := ⟨RX5, "isWithout", "(I)Z"⟩
abbrev wsX5_isWithout : List Cond := .code yX5_isWithout cX5_isWithout 2 (some .boolean) :: allW
theorem kX5_isWithout : (.code yX5_isWithout cX5_isWithout 2 (some .boolean) : Cond) ∈ allW := aw 747 (by decide +kernel) (by decide +kernel)
abbrev cX5_isWithin : ByteArray := prog_7_method_16_code
abbrev yX5_isWithin : MethodName := ⟨RX5, "isWithin", "(I)Z"⟩
abbrev wsX5_isWithin : List Cond := .code yX5_isWithin cX5_isWithin 2 (some .boolean) :: allW
theorem kX5_isWithin : (.code yX5_isWithin cX5_isWithin 2 (some .boolean) : Cond) ∈ allW := aw 743 (by decide +kernel) (by decide +kernel)
abbrev cX5_sharesOf : ByteArray := prog_7_method_17_code
abbrev yX5_sharesOf : MethodName := ⟨RX5, "sharesOf", "(III)I"⟩
abbrev wsX5_sharesOf : List Cond := .code yX5_sharesOf cX5_sharesOf 6 (some .int) :: allW
theorem kX5_sharesOf : (.code yX5_sharesOf cX5_sharesOf 6 (some .int) : Cond) ∈ allW := aw 767 (by decide +kernel) (by decide +kernel)
abbrev cX5_count : ByteArray := prog_7_method_18_code
abbrev yX5_count : MethodName := ⟨RX5, "count", "(I)I"⟩
abbrev wsX5_count : List Cond := .code yX5_count cX5_count 5 (some .int) :: allW
theorem kX5_count : (.code yX5_count cX5_count 5 (some .int) : Cond) ∈ allW := aw 731 (by decide +kernel) (by decide +kernel)
abbrev cX5_hour : ByteArray := prog_7_method_19_code
abbrev yX5_hour : MethodName := ⟨RX5, "hour", "(I)I"⟩
abbrev wsX5_hour : List Cond := .code yX5_hour cX5_hour 4 (some .int) :: allW
theorem kX5_hour : (.code yX5_hour cX5_hour 4 (some .int) : Cond) ∈ allW := aw 759 (by decide +kernel) (by decide +kernel)
abbrev cX5_common : ByteArray := prog_7_method_20_code
abbrev yX5_common : MethodName := ⟨RX5, "common", "(II)I"⟩
abbrev wsX5_common : List Cond := .code yX5_common cX5_common 5 (some .int) :: allW
theorem kX5_common : (.code yX5_common cX5_common 5 (some .int) : Cond) ∈ allW := aw 770 (by decide +kernel) (by decide +kernel)
abbrev cX5_share : ByteArray := prog_7_method_21_code
abbrev yX5_share : MethodName := ⟨RX5, "share", "(I)I"⟩
abbrev wsX5_share : List Cond := .code yX5_share cX5_share 4 (some .int) :: allW
theorem kX5_share : (.code yX5_share cX5_share 4 (some .int) : Cond) ∈ allW := aw 763 (by decide +kernel) (by decide +kernel)
abbrev cX5_sumOf : ByteArray := prog_7_method_22_code
abbrev yX5_sumOf : MethodName := ⟨RX5, "sumOf", "(I)I"⟩
abbrev wsX5_sumOf : List Cond := .code yX5_sumOf cX5_sumOf 2 (some .int) :: allW
theorem kX5_sumOf : (.code yX5_sumOf cX5_sumOf 2 (some .int) : Cond) ∈ allW := aw 778 (by decide +kernel) (by decide +kernel)
abbrev cX5_placed : ByteArray := prog_7_method_23_code
abbrev yX5_placed : MethodName := ⟨RX5, "placed", "(I)I"⟩
abbrev wsX5_placed : List Cond := .code yX5_placed cX5_placed 6 (some .int) :: allW
theorem kX5_placed : (.code yX5_placed cX5_placed 6 (some .int) : Cond) ∈ allW := aw 774 (by decide +kernel) (by decide +kernel)
abbrev cX5_splits : ByteArray := prog_7_method_24_code
abbrev yX5_splits : MethodName := ⟨RX5, "splits", "()I"⟩
abbrev wsX5_splits : List Cond := .code yX5_splits cX5_splits 3 (some .int) :: allW
theorem kX5_splits : (.code yX5_splits cX5_splits 3 (some .int) : Cond) ∈ allW := aw 782 (by decide +kernel) (by decide +kernel)
abbrev cX5_compare : ByteArray := prog_7_method_25_code
abbrev yX5_compare : MethodName := ⟨RX5, "compare", "(II)I"⟩
abbrev wsX5_compare : List Cond := .code yX5_compare cX5_compare 12 (some .int) :: allW
theorem kX5_compare : (.code yX5_compare cX5_compare 12 (some .int) : Cond) ∈ allW := aw 786 (by decide +kernel) (by decide +kernel)
abbrev cX5_gain : ByteArray := prog_7_method_26_code
abbrev yX5_gain : MethodName := ⟨RX5, "gain", "(II)I"⟩
abbrev wsX5_gain : List Cond := .code yX5_gain cX5_gain 5 (some .int) :: allW
theorem kX5_gain : (.code yX5_gain cX5_gain 5 (some .int) : Cond) ∈ allW := aw 794 (by decide +kernel) (by decide +kernel)
abbrev cX5_ordersFrom : ByteArray := prog_7_method_27_code
abbrev yX5_ordersFrom : MethodName := ⟨RX5, "ordersFrom", "(II)I"⟩
abbrev wsX5_ordersFrom : List Cond := .code yX5_ordersFrom cX5_ordersFrom 8 (some .int) :: allW
theorem kX5_ordersFrom : (.code yX5_ordersFrom cX5_ordersFrom 8 (some .int) : Cond) ∈ allW := aw 798 (by decide +kernel) (by decide +kernel)
abbrev cX5_trend : ByteArray := prog_7_method_28_code
abbrev yX5_trend : MethodName := ⟨RX5, "trend", "(IIII)I"⟩
abbrev wsX5_trend : List Cond := .code yX5_trend cX5_trend 10 (some .int) :: allW
theorem kX5_trend : (.code yX5_trend cX5_trend 10 (some .int) : Cond) ∈ allW := aw 790 (by decide +kernel) (by decide +kernel)
abbrev cX5_rowsOf : ByteArray := prog_7_method_29_code
abbrev yX5_rowsOf : MethodName := ⟨RX5, "rowsOf", "(II)I"⟩
abbrev wsX5_rowsOf : List Cond := .code yX5_rowsOf cX5_rowsOf 5 (some .int) :: allW
theorem kX5_rowsOf : (.code yX5_rowsOf cX5_rowsOf 5 (some .int) : Cond) ∈ allW := aw 811 (by decide +kernel) (by decide +kernel)
abbrev cX5_people : ByteArray := prog_7_method_30_code
abbrev yX5_people : MethodName := ⟨RX5, "people", "(II)V"⟩
abbrev wsX5_people : List Cond := .code yX5_people cX5_people 3 none :: allW
theorem kX5_people : (.code yX5_people cX5_people 3 none : Cond) ∈ allW := aw 802 (by decide +kernel) (by decide +kernel)
abbrev cX5_perThousand : ByteArray := prog_7_method_31_code
abbrev yX5_perThousand : MethodName := ⟨RX5, "perThousand", "(I)I"⟩
abbrev wsX5_perThousand : List Cond := .code yX5_perThousand cX5_perThousand 3 (some .int) :: allW
theorem kX5_perThousand : (.code yX5_perThousand cX5_perThousand 3 (some .int) : Cond) ∈ allW := aw 807 (by decide +kernel) (by decide +kernel)
abbrev cX5_rank : ByteArray := prog_7_method_32_code
abbrev yX5_rank : MethodName := ⟨RX5, "rank", "(I)I"⟩
abbrev wsX5_rank : List Cond := .code yX5_rank cX5_rank 4 (some .int) :: allW
theorem kX5_rank : (.code yX5_rank cX5_rank 4 (some .int) : Cond) ∈ allW := aw 815 (by decide +kernel) (by decide +kernel)
abbrev cX5_least : ByteArray := prog_7_method_33_code
abbrev yX5_least : MethodName := ⟨RX5, "least", "(I)V"⟩
abbrev wsX5_least : List Cond := .code yX5_least cX5_least 2 none :: allW
theorem kX5_least : (.code yX5_least cX5_least 2 none : Cond) ∈ allW := aw 819 (by decide +kernel) (by decide +kernel)
abbrev cX5_join : ByteArray := prog_7_method_34_code
abbrev yX5_join : MethodName := ⟨RX5, "join", "()I"⟩
abbrev wsX5_join : List Cond := .code yX5_join cX5_join 6 (some .int) :: allW
theorem kX5_join : (.code yX5_join cX5_join 6 (some .int) : Cond) ∈ allW := aw 827 (by decide +kernel) (by decide +kernel)
abbrev cX5_shown : ByteArray := prog_7_method_35_code
abbrev yX5_shown : MethodName := ⟨RX5, "shown", "(I)I"⟩
abbrev wsX5_shown : List Cond := .code yX5_shown cX5_shown 2 (some .int) :: allW
theorem kX5_shown : (.code yX5_shown cX5_shown 2 (some .int) : Cond) ∈ allW := aw 823 (by decide +kernel) (by decide +kernel)
abbrev cX5_joined : ByteArray := prog_7_method_36_code
abbrev yX5_joined : MethodName := ⟨RX5, "joined", "()I"⟩
abbrev wsX5_joined : List Cond := .code yX5_joined cX5_joined 1 (some .int) :: allW
theorem kX5_joined : (.code yX5_joined cX5_joined 1 (some .int) : Cond) ∈ allW := aw 831 (by decide +kernel) (by decide +kernel)
abbrev cX5_work : ByteArray := prog_7_method_37_code
abbrev yX5_work : MethodName := ⟨RX5, "work", "(II)I"⟩
abbrev wsX5_work : List Cond := .code yX5_work cX5_work 6 (some .int) :: allW
theorem kX5_work : (.code yX5_work cX5_work 6 (some .int) : Cond) ∈ allW := aw 835 (by decide +kernel) (by decide +kernel)
abbrev cX0_init : ByteArray := prog_2_method_1_code
abbrev yX0_init : MethodName := ⟨RX0, "<init>", "()V"⟩
abbrev wsX0_init : List Cond := .code yX0_init cX0_init 1 none :: allW
theorem kX0_init : (.code yX0_init cX0_init 1 none : Cond) ∈ allW := aw 59 (by decide +kernel) (by decide +kernel)
abbrev cX0_isFull : ByteArray := prog_2_method_2_code
abbrev yX0_isFull : MethodName := ⟨RX0, "isFull", "()Z"⟩
abbrev wsX0_isFull : List Cond := .code yX0_isFull cX0_isFull 1 (some .boolean) :: allW
theorem kX0_isFull : (.code yX0_isFull cX0_isFull 1 (some .boolean) : Cond) ∈ allW := aw 377 (by decide +kernel) (by decide +kernel)
abbrev cX0_add : ByteArray := prog_2_method_3_code
abbrev yX0_add : MethodName := ⟨RX0, "add", "(II)I"⟩
abbrev wsX0_add : List Cond := .code yX0_add cX0_add 3 (some .int) :: allW
theorem kX0_add : (.code yX0_add cX0_add 3 (some .int) : Cond) ∈ allW := aw 382 (by decide +kernel) (by decide +kernel)
abbrev cX0_markOn : ByteArray := prog_2_method_4_code
abbrev yX0_markOn : MethodName := ⟨RX0, "markOn", "(I)I"⟩
abbrev wsX0_markOn : List Cond := .code yX0_markOn cX0_markOn 5 (some .int) :: allW
theorem kX0_markOn : (.code yX0_markOn cX0_markOn 5 (some .int) : Cond) ∈ allW := aw 185 (by decide +kernel) (by decide +kernel)
abbrev cX0_changes : ByteArray := prog_2_method_5_code
abbrev yX0_changes : MethodName := ⟨RX0, "changes", "(II)I"⟩
abbrev wsX0_changes : List Cond := .code yX0_changes cX0_changes 7 (some .int) :: allW
theorem kX0_changes : (.code yX0_changes cX0_changes 7 (some .int) : Cond) ∈ allW := aw 177 (by decide +kernel) (by decide +kernel)
abbrev cX0_isLastOfItsDay : ByteArray := prog_2_method_6_code
abbrev yX0_isLastOfItsDay : MethodName := ⟨RX0, "isLastOfItsDay", "(I)Z"⟩
abbrev wsX0_isLastOfItsDay : List Cond := .code yX0_isLastOfItsDay cX0_isLastOfItsDay 3 (some .boolean) :: allW
theorem kX0_isLastOfItsDay : (.code yX0_isLastOfItsDay cX0_isLastOfItsDay 3 (some .boolean) : Cond) ∈ allW := aw 181 (by decide +kernel) (by decide +kernel)
abbrev cX1_init : ByteArray := prog_3_method_1_code
abbrev yX1_init : MethodName := ⟨RX1, "<init>", "()V"⟩
abbrev wsX1_init : List Cond := .code yX1_init cX1_init 1 none :: allW
theorem kX1_init : (.code yX1_init cX1_init 1 none : Cond) ∈ allW := aw 76 (by decide +kernel) (by decide +kernel)
abbrev cX1_size : ByteArray := prog_3_method_2_code
abbrev yX1_size : MethodName := ⟨RX1, "size", "()I"⟩
abbrev wsX1_size : List Cond := .code yX1_size cX1_size 1 (some .int) :: allW
theorem kX1_size : (.code yX1_size cX1_size 1 (some .int) : Cond) ∈ allW := aw 362 (by decide +kernel) (by decide +kernel)
abbrev cX1_isFull : ByteArray := prog_3_method_3_code
abbrev yX1_isFull : MethodName := ⟨RX1, "isFull", "()Z"⟩
abbrev wsX1_isFull : List Cond := .code yX1_isFull cX1_isFull 1 (some .boolean) :: allW
theorem kX1_isFull : (.code yX1_isFull cX1_isFull 1 (some .boolean) : Cond) ∈ allW := aw 330 (by decide +kernel) (by decide +kernel)
abbrev cX1_add : ByteArray := prog_3_method_4_code
abbrev yX1_add : MethodName := ⟨RX1, "add", "(IIIIII)I"⟩
abbrev wsX1_add : List Cond := .code yX1_add cX1_add 8 (some .int) :: allW
theorem kX1_add : (.code yX1_add cX1_add 8 (some .int) : Cond) ∈ allW := aw 350 (by decide +kernel) (by decide +kernel)
abbrev cX1_setSeconds : ByteArray := prog_3_method_5_code
abbrev yX1_setSeconds : MethodName := ⟨RX1, "setSeconds", "(III)V"⟩
abbrev wsX1_setSeconds : List Cond := .code yX1_setSeconds cX1_setSeconds 4 none :: allW
theorem kX1_setSeconds : (.code yX1_setSeconds cX1_setSeconds 4 none : Cond) ∈ allW := aw 366 (by decide +kernel) (by decide +kernel)
abbrev cX1_number : ByteArray := prog_3_method_6_code
abbrev yX1_number : MethodName := ⟨RX1, "number", "(IIII)I"⟩
abbrev wsX1_number : List Cond := .code yX1_number cX1_number 7 (some .int) :: allW
theorem kX1_number : (.code yX1_number cX1_number 7 (some .int) : Cond) ∈ allW := aw 197 (by decide +kernel) (by decide +kernel)
abbrev cX1_total : ByteArray := prog_3_method_7_code
abbrev yX1_total : MethodName := ⟨RX1, "total", "(ILShareStatistics$Definitions;IIII)I"⟩
abbrev wsX1_total : List Cond := .code yX1_total cX1_total 9 (some .int) :: allW
theorem kX1_total : (.code yX1_total cX1_total 9 (some .int) : Cond) ∈ allW := aw 408 (by decide +kernel) (by decide +kernel)
abbrev cX1_inHour : ByteArray := prog_3_method_8_code
abbrev yX1_inHour : MethodName := ⟨RX1, "inHour", "(IIIII)I"⟩
abbrev wsX1_inHour : List Cond := .code yX1_inHour cX1_inHour 8 (some .int) :: allW
theorem kX1_inHour : (.code yX1_inHour cX1_inHour 8 (some .int) : Cond) ∈ allW := aw 439 (by decide +kernel) (by decide +kernel)
abbrev cX1_sumAtPlace : ByteArray := prog_3_method_9_code
abbrev yX1_sumAtPlace : MethodName := ⟨RX1, "sumAtPlace", "(IIIII)I"⟩
abbrev wsX1_sumAtPlace : List Cond := .code yX1_sumAtPlace cX1_sumAtPlace 8 (some .int) :: allW
theorem kX1_sumAtPlace : (.code yX1_sumAtPlace cX1_sumAtPlace 8 (some .int) : Cond) ∈ allW := aw 491 (by decide +kernel) (by decide +kernel)
abbrev cX1_hidden : ByteArray := prog_3_method_10_code
abbrev yX1_hidden : MethodName := ⟨RX1, "hidden", "(II)I"⟩
abbrev wsX1_hidden : List Cond := .code yX1_hidden cX1_hidden 5 (some .int) :: allW
theorem kX1_hidden : (.code yX1_hidden cX1_hidden 5 (some .int) : Cond) ∈ allW := aw 213 (by decide +kernel) (by decide +kernel)
abbrev cX1_ofStation : ByteArray := prog_3_method_11_code
abbrev yX1_ofStation : MethodName := ⟨RX1, "ofStation", "(III)I"⟩
abbrev wsX1_ofStation : List Cond := .code yX1_ofStation cX1_ofStation 6 (some .int) :: allW
theorem kX1_ofStation : (.code yX1_ofStation cX1_ofStation 6 (some .int) : Cond) ∈ allW := aw 606 (by decide +kernel) (by decide +kernel)
abbrev cX1_secondsOfStation : ByteArray := prog_3_method_12_code
abbrev yX1_secondsOfStation : MethodName := ⟨RX1, "secondsOfStation", "(III)I"⟩
abbrev wsX1_secondsOfStation : List Cond := .code yX1_secondsOfStation cX1_secondsOfStation 6 (some .int) :: allW
theorem kX1_secondsOfStation : (.code yX1_secondsOfStation cX1_secondsOfStation 6 (some .int) : Cond) ∈ allW := aw 614 (by decide +kernel) (by decide +kernel)
abbrev cX1_amount : ByteArray := prog_3_method_13_code
abbrev yX1_amount : MethodName := ⟨RX1, "amount", "(III)I"⟩
abbrev wsX1_amount : List Cond := .code yX1_amount cX1_amount 4 (some .int) :: allW
theorem kX1_amount : (.code yX1_amount cX1_amount 4 (some .int) : Cond) ∈ allW := aw 413 (by decide +kernel) (by decide +kernel)
abbrev cX1_isWork : ByteArray := prog_3_method_14_code
abbrev yX1_isWork : MethodName := ⟨RX1, "isWork", "(IIII)Z"⟩
abbrev wsX1_isWork : List Cond := .code yX1_isWork cX1_isWork 5 (some .boolean) :: allW
theorem kX1_isWork : (.code yX1_isWork cX1_isWork 5 (some .boolean) : Cond) ∈ allW := aw 610 (by decide +kernel) (by decide +kernel)
abbrev cX1_isAsked : ByteArray := prog_3_method_15_code
abbrev yX1_isAsked : MethodName := ⟨RX1, "isAsked", "(IIIII)Z"⟩
abbrev wsX1_isAsked : List Cond := .code yX1_isAsked cX1_isAsked 6 (some .boolean) :: allW
theorem kX1_isAsked : (.code yX1_isAsked cX1_isAsked 6 (some .boolean) : Cond) ∈ allW := aw 201 (by decide +kernel) (by decide +kernel)
abbrev cX1_isHidden : ByteArray := prog_3_method_16_code
abbrev yX1_isHidden : MethodName := ⟨RX1, "isHidden", "(I)Z"⟩
abbrev wsX1_isHidden : List Cond := .code yX1_isHidden cX1_isHidden 2 (some .boolean) :: allW
theorem kX1_isHidden : (.code yX1_isHidden cX1_isHidden 2 (some .boolean) : Cond) ∈ allW := aw 205 (by decide +kernel) (by decide +kernel)
abbrev cX1_isInSpan : ByteArray := prog_3_method_17_code
abbrev yX1_isInSpan : MethodName := ⟨RX1, "isInSpan", "(III)Z"⟩
abbrev wsX1_isInSpan : List Cond := .code yX1_isInSpan cX1_isInSpan 4 (some .boolean) :: allW
theorem kX1_isInSpan : (.code yX1_isInSpan cX1_isInSpan 4 (some .boolean) : Cond) ∈ allW := aw 209 (by decide +kernel) (by decide +kernel)
abbrev cX1_hasBothValues : ByteArray := prog_3_method_18_code
abbrev yX1_hasBothValues : MethodName := ⟨RX1, "hasBothValues", "(I)Z"⟩
abbrev wsX1_hasBothValues : List Cond := .code yX1_hasBothValues cX1_hasBothValues 2 (some .boolean) :: allW
theorem kX1_hasBothValues : (.code yX1_hasBothValues cX1_hasBothValues 2 (some .boolean) : Cond) ∈ allW := aw 425 (by decide +kernel) (by decide +kernel)
abbrev cX1_isWithout : ByteArray := prog_3_method_19_code
abbrev yX1_isWithout : MethodName := ⟨RX1, "isWithout", "(II)Z"⟩
abbrev wsX1_isWithout : List Cond := .code yX1_isWithout cX1_isWithout 3 (some .boolean) :: allW
theorem kX1_isWithout : (.code yX1_isWithout cX1_isWithout 3 (some .boolean) : Cond) ∈ allW := aw 421 (by decide +kernel) (by decide +kernel)
abbrev cX1_isWithin : ByteArray := prog_3_method_20_code
abbrev yX1_isWithin : MethodName := ⟨RX1, "isWithin", "(II)Z"⟩
abbrev wsX1_isWithin : List Cond := .code yX1_isWithin cX1_isWithin 3 (some .boolean) :: allW
theorem kX1_isWithin : (.code yX1_isWithin cX1_isWithin 3 (some .boolean) : Cond) ∈ allW := aw 417 (by decide +kernel) (by decide +kernel)
abbrev cX1_secondsOf : ByteArray := prog_3_method_21_code
abbrev yX1_secondsOf : MethodName := ⟨RX1, "secondsOf", "(I)I"⟩
abbrev wsX1_secondsOf : List Cond := .code yX1_secondsOf cX1_secondsOf 1 (some .int) :: allW
theorem kX1_secondsOf : (.code yX1_secondsOf cX1_secondsOf 1 (some .int) : Cond) ∈ allW := aw 428 (by decide +kernel) (by decide +kernel)
abbrev cX1_sortIn : ByteArray := prog_3_method_22_code
abbrev yX1_sortIn : MethodName := ⟨RX1, "sortIn", "(II)V"⟩
abbrev wsX1_sortIn : List Cond := .code yX1_sortIn cX1_sortIn 4 none :: allW
theorem kX1_sortIn : (.code yX1_sortIn cX1_sortIn 4 none : Cond) ∈ allW := aw 495 (by decide +kernel) (by decide +kernel)
abbrev cX2_init : ByteArray := prog_4_method_1_code
abbrev yX2_init : MethodName := ⟨RX2, "<init>", "()V"⟩
abbrev wsX2_init : List Cond := .code yX2_init cX2_init 1 none :: allW
theorem kX2_init : (.code yX2_init cX2_init 1 none : Cond) ∈ allW := aw 126 (by decide +kernel) (by decide +kernel)
abbrev cX2_setLeast : ByteArray := prog_4_method_2_code
abbrev yX2_setLeast : MethodName := ⟨RX2, "setLeast", "(I)V"⟩
abbrev wsX2_setLeast : List Cond := .code yX2_setLeast cX2_setLeast 2 none :: allW
theorem kX2_setLeast : (.code yX2_setLeast cX2_setLeast 2 none : Cond) ∈ allW := aw 584 (by decide +kernel) (by decide +kernel)
abbrev cX2_join : ByteArray := prog_4_method_3_code
abbrev yX2_join : MethodName := ⟨RX2, "join", "(LShareStatistics$Incidents;II)V"⟩
abbrev wsX2_join : List Cond := .code yX2_join cX2_join 6 none :: allW
theorem kX2_join : (.code yX2_join cX2_join 6 none : Cond) ∈ allW := aw 193 (by decide +kernel) (by decide +kernel)
abbrev cX2_rowsShown : ByteArray := prog_4_method_4_code
abbrev yX2_rowsShown : MethodName := ⟨RX2, "rowsShown", "(I)I"⟩
abbrev wsX2_rowsShown : List Cond := .code yX2_rowsShown cX2_rowsShown 2 (some .int) :: allW
theorem kX2_rowsShown : (.code yX2_rowsShown cX2_rowsShown 2 (some .int) : Cond) ∈ allW := aw 595 (by decide +kernel) (by decide +kernel)
abbrev cX2_rowsTogether : ByteArray := prog_4_method_5_code
abbrev yX2_rowsTogether : MethodName := ⟨RX2, "rowsTogether", "()I"⟩
abbrev wsX2_rowsTogether : List Cond := .code yX2_rowsTogether cX2_rowsTogether 1 (some .int) :: allW
theorem kX2_rowsTogether : (.code yX2_rowsTogether cX2_rowsTogether 1 (some .int) : Cond) ∈ allW := aw 225 (by decide +kernel) (by decide +kernel)
abbrev cX2_joinMore : ByteArray := prog_4_method_6_code
abbrev yX2_joinMore : MethodName := ⟨RX2, "joinMore", "()V"⟩
abbrev wsX2_joinMore : List Cond := .code yX2_joinMore cX2_joinMore 3 none :: allW
theorem kX2_joinMore : (.code yX2_joinMore cX2_joinMore 3 none : Cond) ∈ allW := aw 217 (by decide +kernel) (by decide +kernel)
abbrev cX2_areaOfFewest : ByteArray := prog_4_method_7_code
abbrev yX2_areaOfFewest : MethodName := ⟨RX2, "areaOfFewest", "()I"⟩
abbrev wsX2_areaOfFewest : List Cond := .code yX2_areaOfFewest cX2_areaOfFewest 4 (some .int) :: allW
theorem kX2_areaOfFewest : (.code yX2_areaOfFewest cX2_areaOfFewest 4 (some .int) : Cond) ∈ allW := aw 221 (by decide +kernel) (by decide +kernel)
abbrev cX3_init : ByteArray := prog_5_method_1_code
abbrev yX3_init : MethodName := ⟨RX3, "<init>", "()V"⟩
abbrev wsX3_init : List Cond := .code yX3_init cX3_init 1 none :: allW
theorem kX3_init : (.code yX3_init cX3_init 1 none : Cond) ∈ allW := aw 113 (by decide +kernel) (by decide +kernel)
abbrev cX3_start : ByteArray := prog_5_method_2_code
abbrev yX3_start : MethodName := ⟨RX3, "start", "(I)V"⟩
abbrev wsX3_start : List Cond := .code yX3_start cX3_start 2 none :: allW
theorem kX3_start : (.code yX3_start cX3_start 2 none : Cond) ∈ allW := aw 516 (by decide +kernel) (by decide +kernel)
abbrev cX3_setCount : ByteArray := prog_5_method_3_code
abbrev yX3_setCount : MethodName := ⟨RX3, "setCount", "(II)V"⟩
abbrev wsX3_setCount : List Cond := .code yX3_setCount cX3_setCount 3 none :: allW
theorem kX3_setCount : (.code yX3_setCount cX3_setCount 3 none : Cond) ∈ allW := aw 524 (by decide +kernel) (by decide +kernel)
abbrev cX3_sum : ByteArray := prog_5_method_4_code
abbrev yX3_sum : MethodName := ⟨RX3, "sum", "()I"⟩
abbrev wsX3_sum : List Cond := .code yX3_sum cX3_sum 4 (some .int) :: allW
theorem kX3_sum : (.code yX3_sum cX3_sum 4 (some .int) : Cond) ∈ allW := aw 528 (by decide +kernel) (by decide +kernel)
abbrev cX3_orders : ByteArray := prog_5_method_5_code
abbrev yX3_orders : MethodName := ⟨RX3, "orders", "()I"⟩
abbrev wsX3_orders : List Cond := .code yX3_orders cX3_orders 3 (some .int) :: allW
theorem kX3_orders : (.code yX3_orders cX3_orders 3 (some .int) : Cond) ∈ allW := aw 546 (by decide +kernel) (by decide +kernel)
abbrev cX3_ordersNotBelow : ByteArray := prog_5_method_6_code
abbrev yX3_ordersNotBelow : MethodName := ⟨RX3, "ordersNotBelow", "(I)I"⟩
abbrev wsX3_ordersNotBelow : List Cond := .code yX3_ordersNotBelow cX3_ordersNotBelow 2 (some .int) :: allW
theorem kX3_ordersNotBelow : (.code yX3_ordersNotBelow cX3_ordersNotBelow 2 (some .int) : Cond) ∈ allW := aw 539 (by decide +kernel) (by decide +kernel)
abbrev cX3_ordersBehind : ByteArray := prog_5_method_7_code
abbrev yX3_ordersBehind : MethodName := ⟨RX3, "ordersBehind", "([IIIIII)I"⟩
abbrev wsX3_ordersBehind : List Cond := .code yX3_ordersBehind cX3_ordersBehind 9 (some .int) :: allW
theorem kX3_ordersBehind : (.code yX3_ordersBehind cX3_ordersBehind 9 (some .int) : Cond) ∈ allW := aw 542 (by decide +kernel) (by decide +kernel)
abbrev cX3_gain : ByteArray := prog_5_method_8_code
abbrev yX3_gain : MethodName := ⟨RX3, "gain", "([IIII)I"⟩
abbrev wsX3_gain : List Cond := .code yX3_gain cX3_gain 6 (some .int) :: allW
theorem kX3_gain : (.code yX3_gain cX3_gain 6 (some .int) : Cond) ∈ allW := aw 531 (by decide +kernel) (by decide +kernel)
abbrev cX3_isTaken : ByteArray := prog_5_method_9_code
abbrev yX3_isTaken : MethodName := ⟨RX3, "isTaken", "(II)Z"⟩
abbrev wsX3_isTaken : List Cond := .code yX3_isTaken cX3_isTaken 2 (some .boolean) :: allW
theorem kX3_isTaken : (.code yX3_isTaken cX3_isTaken 2 (some .boolean) : Cond) ∈ allW := aw 534 (by decide +kernel) (by decide +kernel)
abbrev cL_row : ByteArray := method_3_code
abbrev yL_row : MethodName := ⟨RL, "row", "(LShareStatistics;IIIIII[J)I"⟩
abbrev wsL_row : List Cond := .codeWith yL_row cL_row 9 (some .int) [(0, 18, 21, 13), (0, 18, 25, 15), (0, 18, 29, 17)] :: allW
theorem kL_row : (.codeWith yL_row cL_row 9 (some .int) [(0, 18, 21, 13), (0, 18, 25, 15), (0, 18, 29, 17)] : Cond) ∈ allW := aw 228 (by decide +kernel) (by decide +kernel)
abbrev cL_values : ByteArray := method_4_code
abbrev yL_values : MethodName := ⟨RL, "values", "(LShareStatistics;III)I"⟩
abbrev wsL_values : List Cond := .codeWith yL_values cL_values 5 (some .int) [(0, 7, 10, 13), (0, 7, 14, 15)] :: allW
theorem kL_values : (.codeWith yL_values cL_values 5 (some .int) [(0, 7, 10, 13), (0, 7, 14, 15)] : Cond) ∈ allW := aw 354 (by decide +kernel) (by decide +kernel)
abbrev cL_define : ByteArray := method_5_code
abbrev yL_define : MethodName := ⟨RL, "define", "(LShareStatistics;II[J)I"⟩
abbrev wsL_define : List Cond := .codeWith yL_define cL_define 5 (some .int) [(0, 10, 13, 15), (0, 10, 17, 17)] :: allW
theorem kL_define : (.codeWith yL_define cL_define 5 (some .int) [(0, 10, 13, 15), (0, 10, 17, 17)] : Cond) ∈ allW := aw 369 (by decide +kernel) (by decide +kernel)
abbrev cL_ask : ByteArray := method_6_code
abbrev yL_ask : MethodName := ⟨RL, "ask", "(LShareStatistics;IIII)I"⟩
abbrev wsL_ask : List Cond := .codeWith yL_ask cL_ask 6 (some .int) [(0, 9, 12, 13), (0, 9, 16, 15)] :: allW
theorem kL_ask : (.codeWith yL_ask cL_ask 6 (some .int) [(0, 9, 12, 13), (0, 9, 16, 15)] : Cond) ∈ allW := aw 386 (by decide +kernel) (by decide +kernel)
abbrev cL_count : ByteArray := method_7_code
abbrev yL_count : MethodName := ⟨RL, "count", "(LShareStatistics;I[J)I"⟩
abbrev wsL_count : List Cond := .codeWith yL_count cL_count 4 (some .int) [(0, 9, 12, 13)] :: allW
theorem kL_count : (.codeWith yL_count cL_count 4 (some .int) [(0, 9, 12, 13)] : Cond) ∈ allW := aw 396 (by decide +kernel) (by decide +kernel)
abbrev cL_hour : ByteArray := method_8_code
abbrev yL_hour : MethodName := ⟨RL, "hour", "(LShareStatistics;I[J)I"⟩
abbrev wsL_hour : List Cond := .codeWith yL_hour cL_hour 4 (some .int) [(0, 9, 12, 15)] :: allW
theorem kL_hour : (.codeWith yL_hour cL_hour 4 (some .int) [(0, 9, 12, 15)] : Cond) ∈ allW := aw 431 (by decide +kernel) (by decide +kernel)
abbrev cL_share : ByteArray := method_9_code
abbrev yL_share : MethodName := ⟨RL, "share", "(LShareStatistics;I[J)I"⟩
abbrev wsL_share : List Cond := .codeWith yL_share cL_share 4 (some .int) [(0, 9, 12, 13), (0, 9, 15, 41)] :: allW
theorem kL_share : (.codeWith yL_share cL_share 4 (some .int) [(0, 9, 12, 13), (0, 9, 15, 41)] : Cond) ∈ allW := aw 442 (by decide +kernel) (by decide +kernel)
abbrev cL_placed : ByteArray := method_10_code
abbrev yL_placed : MethodName := ⟨RL, "placed", "(LShareStatistics;I[J)I"⟩
abbrev wsL_placed : List Cond := .codeWith yL_placed cL_placed 4 (some .int) [(0, 9, 12, 15)] :: allW
theorem kL_placed : (.codeWith yL_placed cL_placed 4 (some .int) [(0, 9, 12, 15)] : Cond) ∈ allW := aw 483 (by decide +kernel) (by decide +kernel)
abbrev cL_compare : ByteArray := method_11_code
abbrev yL_compare : MethodName := ⟨RL, "compare", "(LShareStatistics;II[J)I"⟩
abbrev wsL_compare : List Cond := .codeWith yL_compare cL_compare 5 (some .int) [(0, 10, 13, 15), (0, 10, 17, 41)] :: allW
theorem kL_compare : (.codeWith yL_compare cL_compare 5 (some .int) [(0, 10, 13, 15), (0, 10, 17, 41)] : Cond) ∈ allW := aw 498 (by decide +kernel) (by decide +kernel)
abbrev cL_trend : ByteArray := method_12_code
abbrev yL_trend : MethodName := ⟨RL, "trend", "(LShareStatistics;IIII[J)I"⟩
abbrev wsL_trend : List Cond := .codeWith yL_trend cL_trend 7 (some .int) [(0, 14, 17, 13), (0, 14, 21, 15)] :: allW
theorem kL_trend : (.codeWith yL_trend cL_trend 7 (some .int) [(0, 14, 17, 13), (0, 14, 21, 15)] : Cond) ∈ allW := aw 508 (by decide +kernel) (by decide +kernel)
abbrev cL_people : ByteArray := method_13_code
abbrev yL_people : MethodName := ⟨RL, "people", "(LShareStatistics;II)I"⟩
abbrev wsL_people : List Cond := .codeWith yL_people cL_people 4 (some .int) [(0, 6, 9, 13), (0, 6, 12, 15)] :: allW
theorem kL_people : (.codeWith yL_people cL_people 4 (some .int) [(0, 6, 9, 13), (0, 6, 12, 15)] : Cond) ∈ allW := aw 549 (by decide +kernel) (by decide +kernel)
abbrev cL_perThousand : ByteArray := method_14_code
abbrev yL_perThousand : MethodName := ⟨RL, "perThousand", "(LShareStatistics;I[J)I"⟩
abbrev wsL_perThousand : List Cond := .codeWith yL_perThousand cL_perThousand 4 (some .int) [(0, 9, 12, 13), (0, 9, 15, 41)] :: allW
theorem kL_perThousand : (.codeWith yL_perThousand cL_perThousand 4 (some .int) [(0, 9, 12, 13), (0, 9, 15, 41)] : Cond) ∈ allW := aw 557 (by decide +kernel) (by decide +kernel)
abbrev cL_rank : ByteArray := method_15_code
abbrev yL_rank : MethodName := ⟨RL, "rank", "(LShareStatistics;I[J)I"⟩
abbrev wsL_rank : List Cond := .codeWith yL_rank cL_rank 4 (some .int) [(0, 9, 12, 13)] :: allW
theorem kL_rank : (.codeWith yL_rank cL_rank 4 (some .int) [(0, 9, 12, 13)] : Cond) ∈ allW := aw 569 (by decide +kernel) (by decide +kernel)
abbrev cL_least : ByteArray := method_16_code
abbrev yL_least : MethodName := ⟨RL, "least", "(LShareStatistics;I)I"⟩
abbrev wsL_least : List Cond := .codeWith yL_least cL_least 3 (some .int) [(0, 5, 8, 15)] :: allW
theorem kL_least : (.codeWith yL_least cL_least 3 (some .int) [(0, 5, 8, 15)] : Cond) ∈ allW := aw 576 (by decide +kernel) (by decide +kernel)
abbrev cL_shown : ByteArray := method_17_code
abbrev yL_shown : MethodName := ⟨RL, "shown", "(LShareStatistics;I[J)I"⟩
abbrev wsL_shown : List Cond := .codeWith yL_shown cL_shown 4 (some .int) [(0, 9, 12, 13)] :: allW
theorem kL_shown : (.codeWith yL_shown cL_shown 4 (some .int) [(0, 9, 12, 13)] : Cond) ∈ allW := aw 587 (by decide +kernel) (by decide +kernel)
abbrev cL_work : ByteArray := method_18_code
abbrev yL_work : MethodName := ⟨RL, "work", "(LShareStatistics;II[J)I"⟩
abbrev wsL_work : List Cond := .codeWith yL_work cL_work 5 (some .int) [(0, 10, 13, 13)] :: allW
theorem kL_work : (.codeWith yL_work cL_work 5 (some .int) [(0, 10, 13, 13)] : Cond) ∈ allW := aw 598 (by decide +kernel) (by decide +kernel)
abbrev cL_law : ByteArray := code
def yL_law : MethodName := ⟨RL, "law", "([I)Z"⟩
theorem in_L : ((Jvm.Cond.initialized "ShareStatisticsLaw")) ∈ allW := aw 31 (by decide +kernel) (by decide +kernel)
theorem in_X4 : ((Jvm.Cond.initialized "ShareStatistics")) ∈ allW := aw 32 (by decide +kernel) (by decide +kernel)
theorem in_X0 : ((Jvm.Cond.initialized "ShareStatistics$Definitions")) ∈ allW := aw 33 (by decide +kernel) (by decide +kernel)
theorem in_X1 : ((Jvm.Cond.initialized "ShareStatistics$Incidents")) ∈ allW := aw 34 (by decide +kernel) (by decide +kernel)
theorem in_X3 : ((Jvm.Cond.initialized "ShareStatistics$Trend")) ∈ allW := aw 35 (by decide +kernel) (by decide +kernel)
theorem in_X2 : ((Jvm.Cond.initialized "ShareStatistics$Secrecy")) ∈ allW := aw 36 (by decide +kernel) (by decide +kernel)
theorem in_X5 : ((Jvm.Cond.initialized "ShareStatisticsModel")) ∈ allW := aw 37 (by decide +kernel) (by decide +kernel)
theorem in_Throwable : ((Jvm.Cond.initialized "java/lang/Throwable")) ∈ allW := aw 38 (by decide +kernel) (by decide +kernel)
theorem in_Exception : ((Jvm.Cond.initialized "java/lang/Exception")) ∈ allW := aw 39 (by decide +kernel) (by decide +kernel)
theorem in_RuntimeException : ((Jvm.Cond.initialized "java/lang/RuntimeException")) ∈ allW := aw 40 (by decide +kernel) (by decide +kernel)
theorem in_IllegalArgumentException : ((Jvm.Cond.initialized "java/lang/IllegalArgumentException")) ∈ allW := aw 41 (by decide +kernel) (by decide +kernel)
theorem in_IndexOutOfBoundsException : ((Jvm.Cond.initialized "java/lang/IndexOutOfBoundsException")) ∈ allW := aw 42 (by decide +kernel) (by decide +kernel)
theorem in_UnsupportedOperationException : ((Jvm.Cond.initialized "java/lang/UnsupportedOperationException")) ∈ allW := aw 43 (by decide +kernel) (by decide +kernel)
theorem in_ArithmeticException : ((Jvm.Cond.initialized "java/lang/ArithmeticException")) ∈ allW := aw 44 (by decide +kernel) (by decide +kernel)
theorem in_Integer : ((Jvm.Cond.initialized "java/lang/Integer")) ∈ allW := aw 45 (by decide +kernel) (by decide +kernel)
theorem in_Math : ((Jvm.Cond.initialized "java/lang/Math")) ∈ allW := aw 46 (by decide +kernel) (by decide +kernel)
theorem cl_L_X4 : ((Jvm.Cond.classLink "ShareStatisticsLaw" (8 : Nat) "ShareStatistics")) ∈ allW := aw 47 (by decide +kernel) (by decide +kernel)
theorem mk_X4 : ((Jvm.Cond.instantiable "ShareStatistics" (9 : Nat))) ∈ allW := aw 48 (by decide +kernel) (by decide +kernel)
theorem ml_L_X4_init : ((Jvm.Cond.methodLink "ShareStatisticsLaw" (73 : Nat) ({ cls := "ShareStatistics", name := "<init>", desc := "()V" } : Jvm.MethodName))) ∈ allW := aw 49 (by decide +kernel) (by decide +kernel)
theorem im_X4_init : ((Jvm.Cond.instanceMethod ({ cls := "ShareStatistics", name := "<init>", desc := "()V" } : Jvm.MethodName))) ∈ allW := aw 50 (by decide +kernel) (by decide +kernel)
theorem ml_X4_Object_init : ((Jvm.Cond.methodLink "ShareStatistics" (1 : Nat) ({ cls := "java/lang/Object", name := "<init>", desc := "()V" } : Jvm.MethodName))) ∈ allW := aw 52 (by decide +kernel) (by decide +kernel)
theorem cl_X4_X0 : ((Jvm.Cond.classLink "ShareStatistics" (7 : Nat) "ShareStatistics$Definitions")) ∈ allW := aw 55 (by decide +kernel) (by decide +kernel)
theorem mk_X0 : ((Jvm.Cond.instantiable "ShareStatistics$Definitions" (3 : Nat))) ∈ allW := aw 56 (by decide +kernel) (by decide +kernel)
theorem im_X0_init : ((Jvm.Cond.instanceMethod ({ cls := "ShareStatistics$Definitions", name := "<init>", desc := "()V" } : Jvm.MethodName))) ∈ allW := aw 58 (by decide +kernel) (by decide +kernel)
theorem ml_X0_Object_init : ((Jvm.Cond.methodLink "ShareStatistics$Definitions" (3 : Nat) ({ cls := "java/lang/Object", name := "<init>", desc := "()V" } : Jvm.MethodName))) ∈ allW := aw 60 (by decide +kernel) (by decide +kernel)
theorem fl_X0_days : ((Jvm.Cond.fieldLink "ShareStatistics$Definitions" (9 : Nat) "ShareStatistics$Definitions" "days" "[I")) ∈ allW := aw 61 (by decide +kernel) (by decide +kernel)
theorem fl_X0_limits : ((Jvm.Cond.fieldLink "ShareStatistics$Definitions" (15 : Nat) "ShareStatistics$Definitions" "limits" "[I")) ∈ allW := aw 62 (by decide +kernel) (by decide +kernel)
theorem fl_X0_size : ((Jvm.Cond.fieldLink "ShareStatistics$Definitions" (18 : Nat) "ShareStatistics$Definitions" "size" "I")) ∈ allW := aw 63 (by decide +kernel) (by decide +kernel)
theorem ac_int : ((Jvm.Cond.arrayClass Jvm.ClassFile.FieldType.int)) ∈ allW := aw 71 (by decide +kernel) (by decide +kernel)
theorem cl_X4_X1 : ((Jvm.Cond.classLink "ShareStatistics" (16 : Nat) "ShareStatistics$Incidents")) ∈ allW := aw 72 (by decide +kernel) (by decide +kernel)
theorem mk_X1 : ((Jvm.Cond.instantiable "ShareStatistics$Incidents" (10 : Nat))) ∈ allW := aw 73 (by decide +kernel) (by decide +kernel)
theorem im_X1_init : ((Jvm.Cond.instanceMethod ({ cls := "ShareStatistics$Incidents", name := "<init>", desc := "()V" } : Jvm.MethodName))) ∈ allW := aw 75 (by decide +kernel) (by decide +kernel)
theorem ml_X1_Object_init : ((Jvm.Cond.methodLink "ShareStatistics$Incidents" (3 : Nat) ({ cls := "java/lang/Object", name := "<init>", desc := "()V" } : Jvm.MethodName))) ∈ allW := aw 77 (by decide +kernel) (by decide +kernel)
theorem fl_X1_days : ((Jvm.Cond.fieldLink "ShareStatistics$Incidents" (9 : Nat) "ShareStatistics$Incidents" "days" "[I")) ∈ allW := aw 78 (by decide +kernel) (by decide +kernel)
theorem fl_X1_hours : ((Jvm.Cond.fieldLink "ShareStatistics$Incidents" (15 : Nat) "ShareStatistics$Incidents" "hours" "[I")) ∈ allW := aw 79 (by decide +kernel) (by decide +kernel)
theorem fl_X1_kinds : ((Jvm.Cond.fieldLink "ShareStatistics$Incidents" (18 : Nat) "ShareStatistics$Incidents" "kinds" "[I")) ∈ allW := aw 80 (by decide +kernel) (by decide +kernel)
theorem fl_X1_areas : ((Jvm.Cond.fieldLink "ShareStatistics$Incidents" (21 : Nat) "ShareStatistics$Incidents" "areas" "[I")) ∈ allW := aw 81 (by decide +kernel) (by decide +kernel)
theorem fl_X1_stations : ((Jvm.Cond.fieldLink "ShareStatistics$Incidents" (24 : Nat) "ShareStatistics$Incidents" "stations" "[I")) ∈ allW := aw 82 (by decide +kernel) (by decide +kernel)
theorem fl_X1_marks : ((Jvm.Cond.fieldLink "ShareStatistics$Incidents" (27 : Nat) "ShareStatistics$Incidents" "marks" "[I")) ∈ allW := aw 83 (by decide +kernel) (by decide +kernel)
theorem fl_X1_turnOuts : ((Jvm.Cond.fieldLink "ShareStatistics$Incidents" (30 : Nat) "ShareStatistics$Incidents" "turnOuts" "[I")) ∈ allW := aw 84 (by decide +kernel) (by decide +kernel)
theorem fl_X1_travels : ((Jvm.Cond.fieldLink "ShareStatistics$Incidents" (33 : Nat) "ShareStatistics$Incidents" "travels" "[I")) ∈ allW := aw 85 (by decide +kernel) (by decide +kernel)
theorem fl_X1_sortedSums : ((Jvm.Cond.fieldLink "ShareStatistics$Incidents" (36 : Nat) "ShareStatistics$Incidents" "sortedSums" "[I")) ∈ allW := aw 86 (by decide +kernel) (by decide +kernel)
theorem fl_X1_size : ((Jvm.Cond.fieldLink "ShareStatistics$Incidents" (39 : Nat) "ShareStatistics$Incidents" "size" "I")) ∈ allW := aw 87 (by decide +kernel) (by decide +kernel)
theorem cl_X4_X3 : ((Jvm.Cond.classLink "ShareStatistics" (23 : Nat) "ShareStatistics$Trend")) ∈ allW := aw 109 (by decide +kernel) (by decide +kernel)
theorem mk_X3 : ((Jvm.Cond.instantiable "ShareStatistics$Trend" (2 : Nat))) ∈ allW := aw 110 (by decide +kernel) (by decide +kernel)
theorem im_X3_init : ((Jvm.Cond.instanceMethod ({ cls := "ShareStatistics$Trend", name := "<init>", desc := "()V" } : Jvm.MethodName))) ∈ allW := aw 112 (by decide +kernel) (by decide +kernel)
theorem ml_X3_Object_init : ((Jvm.Cond.methodLink "ShareStatistics$Trend" (3 : Nat) ({ cls := "java/lang/Object", name := "<init>", desc := "()V" } : Jvm.MethodName))) ∈ allW := aw 114 (by decide +kernel) (by decide +kernel)
theorem fl_X3_counts : ((Jvm.Cond.fieldLink "ShareStatistics$Trend" (9 : Nat) "ShareStatistics$Trend" "counts" "[I")) ∈ allW := aw 115 (by decide +kernel) (by decide +kernel)
theorem fl_X3_periods : ((Jvm.Cond.fieldLink "ShareStatistics$Trend" (21 : Nat) "ShareStatistics$Trend" "periods" "I")) ∈ allW := aw 116 (by decide +kernel) (by decide +kernel)
theorem cl_X4_X2 : ((Jvm.Cond.classLink "ShareStatistics" (30 : Nat) "ShareStatistics$Secrecy")) ∈ allW := aw 122 (by decide +kernel) (by decide +kernel)
theorem mk_X2 : ((Jvm.Cond.instantiable "ShareStatistics$Secrecy" (4 : Nat))) ∈ allW := aw 123 (by decide +kernel) (by decide +kernel)
theorem im_X2_init : ((Jvm.Cond.instanceMethod ({ cls := "ShareStatistics$Secrecy", name := "<init>", desc := "()V" } : Jvm.MethodName))) ∈ allW := aw 125 (by decide +kernel) (by decide +kernel)
theorem ml_X2_Object_init : ((Jvm.Cond.methodLink "ShareStatistics$Secrecy" (3 : Nat) ({ cls := "java/lang/Object", name := "<init>", desc := "()V" } : Jvm.MethodName))) ∈ allW := aw 127 (by decide +kernel) (by decide +kernel)
theorem fl_X2_rowsOfArea : ((Jvm.Cond.fieldLink "ShareStatistics$Secrecy" (9 : Nat) "ShareStatistics$Secrecy" "rowsOfArea" "[I")) ∈ allW := aw 128 (by decide +kernel) (by decide +kernel)
theorem fl_X2_isJoined : ((Jvm.Cond.fieldLink "ShareStatistics$Secrecy" (15 : Nat) "ShareStatistics$Secrecy" "isJoined" "[Z")) ∈ allW := aw 129 (by decide +kernel) (by decide +kernel)
theorem fl_X2_lowestShown : ((Jvm.Cond.fieldLink "ShareStatistics$Secrecy" (19 : Nat) "ShareStatistics$Secrecy" "lowestShown" "I")) ∈ allW := aw 130 (by decide +kernel) (by decide +kernel)
theorem fl_X2_together : ((Jvm.Cond.fieldLink "ShareStatistics$Secrecy" (23 : Nat) "ShareStatistics$Secrecy" "together" "I")) ∈ allW := aw 131 (by decide +kernel) (by decide +kernel)
theorem ac_boolean : ((Jvm.Cond.arrayClass Jvm.ClassFile.FieldType.boolean)) ∈ allW := aw 141 (by decide +kernel) (by decide +kernel)
theorem fl_X4_definitions : ((Jvm.Cond.fieldLink "ShareStatistics" (10 : Nat) "ShareStatistics" "definitions" "LShareStatistics$Definitions;")) ∈ allW := aw 142 (by decide +kernel) (by decide +kernel)
theorem fl_X4_incidents : ((Jvm.Cond.fieldLink "ShareStatistics" (19 : Nat) "ShareStatistics" "incidents" "LShareStatistics$Incidents;")) ∈ allW := aw 143 (by decide +kernel) (by decide +kernel)
theorem fl_X4_trendCounts : ((Jvm.Cond.fieldLink "ShareStatistics" (26 : Nat) "ShareStatistics" "trendCounts" "LShareStatistics$Trend;")) ∈ allW := aw 144 (by decide +kernel) (by decide +kernel)
theorem fl_X4_secrecy : ((Jvm.Cond.fieldLink "ShareStatistics" (33 : Nat) "ShareStatistics" "secrecy" "LShareStatistics$Secrecy;")) ∈ allW := aw 145 (by decide +kernel) (by decide +kernel)
theorem fl_X4_peopleOfArea : ((Jvm.Cond.fieldLink "ShareStatistics" (37 : Nat) "ShareStatistics" "peopleOfArea" "[I")) ∈ allW := aw 146 (by decide +kernel) (by decide +kernel)
theorem fl_X4_askedFrom : ((Jvm.Cond.fieldLink "ShareStatistics" (41 : Nat) "ShareStatistics" "askedFrom" "I")) ∈ allW := aw 147 (by decide +kernel) (by decide +kernel)
theorem fl_X4_askedTo : ((Jvm.Cond.fieldLink "ShareStatistics" (45 : Nat) "ShareStatistics" "askedTo" "I")) ∈ allW := aw 148 (by decide +kernel) (by decide +kernel)
theorem fl_X4_askedKind : ((Jvm.Cond.fieldLink "ShareStatistics" (48 : Nat) "ShareStatistics" "askedKind" "I")) ∈ allW := aw 149 (by decide +kernel) (by decide +kernel)
theorem fl_X4_askedArea : ((Jvm.Cond.fieldLink "ShareStatistics" (51 : Nat) "ShareStatistics" "askedArea" "I")) ∈ allW := aw 150 (by decide +kernel) (by decide +kernel)
theorem ml_L_X4_splits : ((Jvm.Cond.methodLink "ShareStatisticsLaw" (112 : Nat) ({ cls := "ShareStatistics", name := "splits", desc := "()I" } : Jvm.MethodName))) ∈ allW := aw 170 (by decide +kernel) (by decide +kernel)
theorem im_X4_splits : ((Jvm.Cond.instanceMethod ({ cls := "ShareStatistics", name := "splits", desc := "()I" } : Jvm.MethodName))) ∈ allW := aw 171 (by decide +kernel) (by decide +kernel)
theorem se_X4_splits : ((Jvm.Cond.selects "ShareStatistics" ({ cls := "ShareStatistics", name := "splits", desc := "()I" } : Jvm.MethodName) ({ cls := "ShareStatistics", name := "splits", desc := "()I" } : Jvm.MethodName))) ∈ allW := aw 172 (by decide +kernel) (by decide +kernel)
theorem ml_X4_X0_changes : ((Jvm.Cond.methodLink "ShareStatistics" (117 : Nat) ({ cls := "ShareStatistics$Definitions", name := "changes", desc := "(II)I" } : Jvm.MethodName))) ∈ allW := aw 174 (by decide +kernel) (by decide +kernel)
theorem im_X0_changes : ((Jvm.Cond.instanceMethod ({ cls := "ShareStatistics$Definitions", name := "changes", desc := "(II)I" } : Jvm.MethodName))) ∈ allW := aw 175 (by decide +kernel) (by decide +kernel)
theorem se_X0_changes : ((Jvm.Cond.selects "ShareStatistics$Definitions" ({ cls := "ShareStatistics$Definitions", name := "changes", desc := "(II)I" } : Jvm.MethodName) ({ cls := "ShareStatistics$Definitions", name := "changes", desc := "(II)I" } : Jvm.MethodName))) ∈ allW := aw 176 (by decide +kernel) (by decide +kernel)
theorem ml_X0_X0_isLastOfItsDay : ((Jvm.Cond.methodLink "ShareStatistics$Definitions" (26 : Nat) ({ cls := "ShareStatistics$Definitions", name := "isLastOfItsDay", desc := "(I)Z" } : Jvm.MethodName))) ∈ allW := aw 178 (by decide +kernel) (by decide +kernel)
theorem im_X0_isLastOfItsDay : ((Jvm.Cond.instanceMethod ({ cls := "ShareStatistics$Definitions", name := "isLastOfItsDay", desc := "(I)Z" } : Jvm.MethodName))) ∈ allW := aw 180 (by decide +kernel) (by decide +kernel)
theorem ml_X0_X0_markOn : ((Jvm.Cond.methodLink "ShareStatistics$Definitions" (30 : Nat) ({ cls := "ShareStatistics$Definitions", name := "markOn", desc := "(I)I" } : Jvm.MethodName))) ∈ allW := aw 182 (by decide +kernel) (by decide +kernel)
theorem im_X0_markOn : ((Jvm.Cond.instanceMethod ({ cls := "ShareStatistics$Definitions", name := "markOn", desc := "(I)I" } : Jvm.MethodName))) ∈ allW := aw 183 (by decide +kernel) (by decide +kernel)
theorem se_X0_markOn : ((Jvm.Cond.selects "ShareStatistics$Definitions" ({ cls := "ShareStatistics$Definitions", name := "markOn", desc := "(I)I" } : Jvm.MethodName) ({ cls := "ShareStatistics$Definitions", name := "markOn", desc := "(I)I" } : Jvm.MethodName))) ∈ allW := aw 184 (by decide +kernel) (by decide +kernel)
theorem ml_L_X4_joined : ((Jvm.Cond.methodLink "ShareStatisticsLaw" (140 : Nat) ({ cls := "ShareStatistics", name := "joined", desc := "()I" } : Jvm.MethodName))) ∈ allW := aw 186 (by decide +kernel) (by decide +kernel)
theorem im_X4_joined : ((Jvm.Cond.instanceMethod ({ cls := "ShareStatistics", name := "joined", desc := "()I" } : Jvm.MethodName))) ∈ allW := aw 187 (by decide +kernel) (by decide +kernel)
theorem se_X4_joined : ((Jvm.Cond.selects "ShareStatistics" ({ cls := "ShareStatistics", name := "joined", desc := "()I" } : Jvm.MethodName) ({ cls := "ShareStatistics", name := "joined", desc := "()I" } : Jvm.MethodName))) ∈ allW := aw 188 (by decide +kernel) (by decide +kernel)
theorem ml_X4_X2_join : ((Jvm.Cond.methodLink "ShareStatistics" (157 : Nat) ({ cls := "ShareStatistics$Secrecy", name := "join", desc := "(LShareStatistics$Incidents;II)V" } : Jvm.MethodName))) ∈ allW := aw 190 (by decide +kernel) (by decide +kernel)
theorem im_X2_join : ((Jvm.Cond.instanceMethod ({ cls := "ShareStatistics$Secrecy", name := "join", desc := "(LShareStatistics$Incidents;II)V" } : Jvm.MethodName))) ∈ allW := aw 191 (by decide +kernel) (by decide +kernel)
theorem se_X2_join : ((Jvm.Cond.selects "ShareStatistics$Secrecy" ({ cls := "ShareStatistics$Secrecy", name := "join", desc := "(LShareStatistics$Incidents;II)V" } : Jvm.MethodName) ({ cls := "ShareStatistics$Secrecy", name := "join", desc := "(LShareStatistics$Incidents;II)V" } : Jvm.MethodName))) ∈ allW := aw 192 (by decide +kernel) (by decide +kernel)
theorem ml_X2_X1_number : ((Jvm.Cond.methodLink "ShareStatistics$Secrecy" (26 : Nat) ({ cls := "ShareStatistics$Incidents", name := "number", desc := "(IIII)I" } : Jvm.MethodName))) ∈ allW := aw 194 (by decide +kernel) (by decide +kernel)
theorem im_X1_number : ((Jvm.Cond.instanceMethod ({ cls := "ShareStatistics$Incidents", name := "number", desc := "(IIII)I" } : Jvm.MethodName))) ∈ allW := aw 195 (by decide +kernel) (by decide +kernel)
theorem se_X1_number : ((Jvm.Cond.selects "ShareStatistics$Incidents" ({ cls := "ShareStatistics$Incidents", name := "number", desc := "(IIII)I" } : Jvm.MethodName) ({ cls := "ShareStatistics$Incidents", name := "number", desc := "(IIII)I" } : Jvm.MethodName))) ∈ allW := aw 196 (by decide +kernel) (by decide +kernel)
theorem ml_X1_X1_isAsked : ((Jvm.Cond.methodLink "ShareStatistics$Incidents" (47 : Nat) ({ cls := "ShareStatistics$Incidents", name := "isAsked", desc := "(IIIII)Z" } : Jvm.MethodName))) ∈ allW := aw 198 (by decide +kernel) (by decide +kernel)
theorem im_X1_isAsked : ((Jvm.Cond.instanceMethod ({ cls := "ShareStatistics$Incidents", name := "isAsked", desc := "(IIIII)Z" } : Jvm.MethodName))) ∈ allW := aw 200 (by decide +kernel) (by decide +kernel)
theorem ml_X1_X1_isHidden : ((Jvm.Cond.methodLink "ShareStatistics$Incidents" (69 : Nat) ({ cls := "ShareStatistics$Incidents", name := "isHidden", desc := "(I)Z" } : Jvm.MethodName))) ∈ allW := aw 202 (by decide +kernel) (by decide +kernel)
theorem im_X1_isHidden : ((Jvm.Cond.instanceMethod ({ cls := "ShareStatistics$Incidents", name := "isHidden", desc := "(I)Z" } : Jvm.MethodName))) ∈ allW := aw 204 (by decide +kernel) (by decide +kernel)
theorem ml_X1_X1_isInSpan : ((Jvm.Cond.methodLink "ShareStatistics$Incidents" (72 : Nat) ({ cls := "ShareStatistics$Incidents", name := "isInSpan", desc := "(III)Z" } : Jvm.MethodName))) ∈ allW := aw 206 (by decide +kernel) (by decide +kernel)
theorem im_X1_isInSpan : ((Jvm.Cond.instanceMethod ({ cls := "ShareStatistics$Incidents", name := "isInSpan", desc := "(III)Z" } : Jvm.MethodName))) ∈ allW := aw 208 (by decide +kernel) (by decide +kernel)
theorem ml_X2_X1_hidden : ((Jvm.Cond.methodLink "ShareStatistics$Secrecy" (32 : Nat) ({ cls := "ShareStatistics$Incidents", name := "hidden", desc := "(II)I" } : Jvm.MethodName))) ∈ allW := aw 210 (by decide +kernel) (by decide +kernel)
theorem im_X1_hidden : ((Jvm.Cond.instanceMethod ({ cls := "ShareStatistics$Incidents", name := "hidden", desc := "(II)I" } : Jvm.MethodName))) ∈ allW := aw 211 (by decide +kernel) (by decide +kernel)
theorem se_X1_hidden : ((Jvm.Cond.selects "ShareStatistics$Incidents" ({ cls := "ShareStatistics$Incidents", name := "hidden", desc := "(II)I" } : Jvm.MethodName) ({ cls := "ShareStatistics$Incidents", name := "hidden", desc := "(II)I" } : Jvm.MethodName))) ∈ allW := aw 212 (by decide +kernel) (by decide +kernel)
theorem ml_X2_X2_joinMore : ((Jvm.Cond.methodLink "ShareStatistics$Secrecy" (36 : Nat) ({ cls := "ShareStatistics$Secrecy", name := "joinMore", desc := "()V" } : Jvm.MethodName))) ∈ allW := aw 214 (by decide +kernel) (by decide +kernel)
theorem im_X2_joinMore : ((Jvm.Cond.instanceMethod ({ cls := "ShareStatistics$Secrecy", name := "joinMore", desc := "()V" } : Jvm.MethodName))) ∈ allW := aw 216 (by decide +kernel) (by decide +kernel)
theorem ml_X2_X2_areaOfFewest : ((Jvm.Cond.methodLink "ShareStatistics$Secrecy" (39 : Nat) ({ cls := "ShareStatistics$Secrecy", name := "areaOfFewest", desc := "()I" } : Jvm.MethodName))) ∈ allW := aw 218 (by decide +kernel) (by decide +kernel)
theorem im_X2_areaOfFewest : ((Jvm.Cond.instanceMethod ({ cls := "ShareStatistics$Secrecy", name := "areaOfFewest", desc := "()I" } : Jvm.MethodName))) ∈ allW := aw 220 (by decide +kernel) (by decide +kernel)
theorem ml_X4_X2_rowsTogether : ((Jvm.Cond.methodLink "ShareStatistics" (164 : Nat) ({ cls := "ShareStatistics$Secrecy", name := "rowsTogether", desc := "()I" } : Jvm.MethodName))) ∈ allW := aw 222 (by decide +kernel) (by decide +kernel)
theorem im_X2_rowsTogether : ((Jvm.Cond.instanceMethod ({ cls := "ShareStatistics$Secrecy", name := "rowsTogether", desc := "()I" } : Jvm.MethodName))) ∈ allW := aw 223 (by decide +kernel) (by decide +kernel)
theorem se_X2_rowsTogether : ((Jvm.Cond.selects "ShareStatistics$Secrecy" ({ cls := "ShareStatistics$Secrecy", name := "rowsTogether", desc := "()I" } : Jvm.MethodName) ({ cls := "ShareStatistics$Secrecy", name := "rowsTogether", desc := "()I" } : Jvm.MethodName))) ∈ allW := aw 224 (by decide +kernel) (by decide +kernel)
theorem ml_L_L_row : ((Jvm.Cond.methodLink "ShareStatisticsLaw" (77 : Nat) ({ cls := "ShareStatisticsLaw", name := "row", desc := "(LShareStatistics;IIIIII[J)I" } : Jvm.MethodName))) ∈ allW := aw 226 (by decide +kernel) (by decide +kernel)
theorem sm_L_row : ((Jvm.Cond.static ({ cls := "ShareStatisticsLaw", name := "row", desc := "(LShareStatistics;IIIIII[J)I" } : Jvm.MethodName))) ∈ allW := aw 227 (by decide +kernel) (by decide +kernel)
theorem cl_L_IllegalArgumentException : ((Jvm.Cond.classLink "ShareStatisticsLaw" (13 : Nat) "java/lang/IllegalArgumentException")) ∈ allW := aw 229 (by decide +kernel) (by decide +kernel)
theorem cl_L_IndexOutOfBoundsException : ((Jvm.Cond.classLink "ShareStatisticsLaw" (15 : Nat) "java/lang/IndexOutOfBoundsException")) ∈ allW := aw 230 (by decide +kernel) (by decide +kernel)
theorem cl_L_UnsupportedOperationException : ((Jvm.Cond.classLink "ShareStatisticsLaw" (17 : Nat) "java/lang/UnsupportedOperationException")) ∈ allW := aw 231 (by decide +kernel) (by decide +kernel)
theorem ml_L_X4_row : ((Jvm.Cond.methodLink "ShareStatisticsLaw" (7 : Nat) ({ cls := "ShareStatistics", name := "row", desc := "(IIIIII)I" } : Jvm.MethodName))) ∈ allW := aw 232 (by decide +kernel) (by decide +kernel)
theorem im_X4_row : ((Jvm.Cond.instanceMethod ({ cls := "ShareStatistics", name := "row", desc := "(IIIIII)I" } : Jvm.MethodName))) ∈ allW := aw 233 (by decide +kernel) (by decide +kernel)
theorem se_X4_row : ((Jvm.Cond.selects "ShareStatistics" ({ cls := "ShareStatistics", name := "row", desc := "(IIIIII)I" } : Jvm.MethodName) ({ cls := "ShareStatistics", name := "row", desc := "(IIIIII)I" } : Jvm.MethodName))) ∈ allW := aw 234 (by decide +kernel) (by decide +kernel)
theorem ml_X4_X4_refuseUnknown : ((Jvm.Cond.methodLink "ShareStatistics" (54 : Nat) ({ cls := "ShareStatistics", name := "refuseUnknown", desc := "(II)V" } : Jvm.MethodName))) ∈ allW := aw 236 (by decide +kernel) (by decide +kernel)
theorem sm_X4_refuseUnknown : ((Jvm.Cond.static ({ cls := "ShareStatistics", name := "refuseUnknown", desc := "(II)V" } : Jvm.MethodName))) ∈ allW := aw 237 (by decide +kernel) (by decide +kernel)
theorem cl_X4_IllegalArgumentException : ((Jvm.Cond.classLink "ShareStatistics" (177 : Nat) "java/lang/IllegalArgumentException")) ∈ allW := aw 239 (by decide +kernel) (by decide +kernel)
theorem mk_IllegalArgumentException : ((Jvm.Cond.instantiable "java/lang/IllegalArgumentException" (6 : Nat))) ∈ allW := aw 240 (by decide +kernel) (by decide +kernel)
theorem mk_Throwable : ((Jvm.Cond.instantiable "java/lang/Throwable" (6 : Nat))) ∈ allW := aw 279 (by decide +kernel) (by decide +kernel)
theorem ml_X4_IllegalArgumentException_init : ((Jvm.Cond.methodLink "ShareStatistics" (181 : Nat) ({ cls := "java/lang/IllegalArgumentException", name := "<init>", desc := "(Ljava/lang/String;)V" } : Jvm.MethodName))) ∈ allW := aw 282 (by decide +kernel) (by decide +kernel)
theorem ac_byte : ((Jvm.Cond.arrayClass Jvm.ClassFile.FieldType.byte)) ∈ allW := aw 307 (by decide +kernel) (by decide +kernel)
theorem ml_X4_X4_refuseOutside : ((Jvm.Cond.methodLink "ShareStatistics" (58 : Nat) ({ cls := "ShareStatistics", name := "refuseOutside", desc := "(III)V" } : Jvm.MethodName))) ∈ allW := aw 308 (by decide +kernel) (by decide +kernel)
theorem sm_X4_refuseOutside : ((Jvm.Cond.static ({ cls := "ShareStatistics", name := "refuseOutside", desc := "(III)V" } : Jvm.MethodName))) ∈ allW := aw 309 (by decide +kernel) (by decide +kernel)
theorem cl_X4_IndexOutOfBoundsException : ((Jvm.Cond.classLink "ShareStatistics" (182 : Nat) "java/lang/IndexOutOfBoundsException")) ∈ allW := aw 311 (by decide +kernel) (by decide +kernel)
theorem mk_IndexOutOfBoundsException : ((Jvm.Cond.instantiable "java/lang/IndexOutOfBoundsException" (6 : Nat))) ∈ allW := aw 312 (by decide +kernel) (by decide +kernel)
theorem ml_X4_IndexOutOfBoundsException_init : ((Jvm.Cond.methodLink "ShareStatistics" (186 : Nat) ({ cls := "java/lang/IndexOutOfBoundsException", name := "<init>", desc := "(Ljava/lang/String;)V" } : Jvm.MethodName))) ∈ allW := aw 321 (by decide +kernel) (by decide +kernel)
theorem ml_X4_X1_isFull : ((Jvm.Cond.methodLink "ShareStatistics" (62 : Nat) ({ cls := "ShareStatistics$Incidents", name := "isFull", desc := "()Z" } : Jvm.MethodName))) ∈ allW := aw 327 (by decide +kernel) (by decide +kernel)
theorem im_X1_isFull : ((Jvm.Cond.instanceMethod ({ cls := "ShareStatistics$Incidents", name := "isFull", desc := "()Z" } : Jvm.MethodName))) ∈ allW := aw 328 (by decide +kernel) (by decide +kernel)
theorem se_X1_isFull : ((Jvm.Cond.selects "ShareStatistics$Incidents" ({ cls := "ShareStatistics$Incidents", name := "isFull", desc := "()Z" } : Jvm.MethodName) ({ cls := "ShareStatistics$Incidents", name := "isFull", desc := "()Z" } : Jvm.MethodName))) ∈ allW := aw 329 (by decide +kernel) (by decide +kernel)
theorem cl_X4_UnsupportedOperationException : ((Jvm.Cond.classLink "ShareStatistics" (66 : Nat) "java/lang/UnsupportedOperationException")) ∈ allW := aw 331 (by decide +kernel) (by decide +kernel)
theorem mk_UnsupportedOperationException : ((Jvm.Cond.instantiable "java/lang/UnsupportedOperationException" (6 : Nat))) ∈ allW := aw 332 (by decide +kernel) (by decide +kernel)
theorem ml_X4_UnsupportedOperationException_init : ((Jvm.Cond.methodLink "ShareStatistics" (70 : Nat) ({ cls := "java/lang/UnsupportedOperationException", name := "<init>", desc := "(Ljava/lang/String;)V" } : Jvm.MethodName))) ∈ allW := aw 341 (by decide +kernel) (by decide +kernel)
theorem ml_X4_X1_add : ((Jvm.Cond.methodLink "ShareStatistics" (73 : Nat) ({ cls := "ShareStatistics$Incidents", name := "add", desc := "(IIIIII)I" } : Jvm.MethodName))) ∈ allW := aw 347 (by decide +kernel) (by decide +kernel)
theorem im_X1_add : ((Jvm.Cond.instanceMethod ({ cls := "ShareStatistics$Incidents", name := "add", desc := "(IIIIII)I" } : Jvm.MethodName))) ∈ allW := aw 348 (by decide +kernel) (by decide +kernel)
theorem se_X1_add : ((Jvm.Cond.selects "ShareStatistics$Incidents" ({ cls := "ShareStatistics$Incidents", name := "add", desc := "(IIIIII)I" } : Jvm.MethodName) ({ cls := "ShareStatistics$Incidents", name := "add", desc := "(IIIIII)I" } : Jvm.MethodName))) ∈ allW := aw 349 (by decide +kernel) (by decide +kernel)
theorem ml_X1_X1_isFull : ((Jvm.Cond.methodLink "ShareStatistics$Incidents" (43 : Nat) ({ cls := "ShareStatistics$Incidents", name := "isFull", desc := "()Z" } : Jvm.MethodName))) ∈ allW := aw 351 (by decide +kernel) (by decide +kernel)
theorem ml_L_L_values : ((Jvm.Cond.methodLink "ShareStatisticsLaw" (87 : Nat) ({ cls := "ShareStatisticsLaw", name := "values", desc := "(LShareStatistics;III)I" } : Jvm.MethodName))) ∈ allW := aw 352 (by decide +kernel) (by decide +kernel)
theorem sm_L_values : ((Jvm.Cond.static ({ cls := "ShareStatisticsLaw", name := "values", desc := "(LShareStatistics;III)I" } : Jvm.MethodName))) ∈ allW := aw 353 (by decide +kernel) (by decide +kernel)
theorem ml_L_X4_values : ((Jvm.Cond.methodLink "ShareStatisticsLaw" (19 : Nat) ({ cls := "ShareStatistics", name := "values", desc := "(III)V" } : Jvm.MethodName))) ∈ allW := aw 355 (by decide +kernel) (by decide +kernel)
theorem im_X4_values : ((Jvm.Cond.instanceMethod ({ cls := "ShareStatistics", name := "values", desc := "(III)V" } : Jvm.MethodName))) ∈ allW := aw 356 (by decide +kernel) (by decide +kernel)
theorem se_X4_values : ((Jvm.Cond.selects "ShareStatistics" ({ cls := "ShareStatistics", name := "values", desc := "(III)V" } : Jvm.MethodName) ({ cls := "ShareStatistics", name := "values", desc := "(III)V" } : Jvm.MethodName))) ∈ allW := aw 357 (by decide +kernel) (by decide +kernel)
theorem ml_X4_X1_size : ((Jvm.Cond.methodLink "ShareStatistics" (77 : Nat) ({ cls := "ShareStatistics$Incidents", name := "size", desc := "()I" } : Jvm.MethodName))) ∈ allW := aw 359 (by decide +kernel) (by decide +kernel)
theorem im_X1_size : ((Jvm.Cond.instanceMethod ({ cls := "ShareStatistics$Incidents", name := "size", desc := "()I" } : Jvm.MethodName))) ∈ allW := aw 360 (by decide +kernel) (by decide +kernel)
theorem se_X1_size : ((Jvm.Cond.selects "ShareStatistics$Incidents" ({ cls := "ShareStatistics$Incidents", name := "size", desc := "()I" } : Jvm.MethodName) ({ cls := "ShareStatistics$Incidents", name := "size", desc := "()I" } : Jvm.MethodName))) ∈ allW := aw 361 (by decide +kernel) (by decide +kernel)
theorem ml_X4_X1_setSeconds : ((Jvm.Cond.methodLink "ShareStatistics" (81 : Nat) ({ cls := "ShareStatistics$Incidents", name := "setSeconds", desc := "(III)V" } : Jvm.MethodName))) ∈ allW := aw 363 (by decide +kernel) (by decide +kernel)
theorem im_X1_setSeconds : ((Jvm.Cond.instanceMethod ({ cls := "ShareStatistics$Incidents", name := "setSeconds", desc := "(III)V" } : Jvm.MethodName))) ∈ allW := aw 364 (by decide +kernel) (by decide +kernel)
theorem se_X1_setSeconds : ((Jvm.Cond.selects "ShareStatistics$Incidents" ({ cls := "ShareStatistics$Incidents", name := "setSeconds", desc := "(III)V" } : Jvm.MethodName) ({ cls := "ShareStatistics$Incidents", name := "setSeconds", desc := "(III)V" } : Jvm.MethodName))) ∈ allW := aw 365 (by decide +kernel) (by decide +kernel)
theorem ml_L_L_define : ((Jvm.Cond.methodLink "ShareStatisticsLaw" (91 : Nat) ({ cls := "ShareStatisticsLaw", name := "define", desc := "(LShareStatistics;II[J)I" } : Jvm.MethodName))) ∈ allW := aw 367 (by decide +kernel) (by decide +kernel)
theorem sm_L_define : ((Jvm.Cond.static ({ cls := "ShareStatisticsLaw", name := "define", desc := "(LShareStatistics;II[J)I" } : Jvm.MethodName))) ∈ allW := aw 368 (by decide +kernel) (by decide +kernel)
theorem ml_L_X4_define : ((Jvm.Cond.methodLink "ShareStatisticsLaw" (23 : Nat) ({ cls := "ShareStatistics", name := "define", desc := "(II)I" } : Jvm.MethodName))) ∈ allW := aw 370 (by decide +kernel) (by decide +kernel)
theorem im_X4_define : ((Jvm.Cond.instanceMethod ({ cls := "ShareStatistics", name := "define", desc := "(II)I" } : Jvm.MethodName))) ∈ allW := aw 371 (by decide +kernel) (by decide +kernel)
theorem se_X4_define : ((Jvm.Cond.selects "ShareStatistics" ({ cls := "ShareStatistics", name := "define", desc := "(II)I" } : Jvm.MethodName) ({ cls := "ShareStatistics", name := "define", desc := "(II)I" } : Jvm.MethodName))) ∈ allW := aw 372 (by decide +kernel) (by decide +kernel)
theorem ml_X4_X0_isFull : ((Jvm.Cond.methodLink "ShareStatistics" (84 : Nat) ({ cls := "ShareStatistics$Definitions", name := "isFull", desc := "()Z" } : Jvm.MethodName))) ∈ allW := aw 374 (by decide +kernel) (by decide +kernel)
theorem im_X0_isFull : ((Jvm.Cond.instanceMethod ({ cls := "ShareStatistics$Definitions", name := "isFull", desc := "()Z" } : Jvm.MethodName))) ∈ allW := aw 375 (by decide +kernel) (by decide +kernel)
theorem se_X0_isFull : ((Jvm.Cond.selects "ShareStatistics$Definitions" ({ cls := "ShareStatistics$Definitions", name := "isFull", desc := "()Z" } : Jvm.MethodName) ({ cls := "ShareStatistics$Definitions", name := "isFull", desc := "()Z" } : Jvm.MethodName))) ∈ allW := aw 376 (by decide +kernel) (by decide +kernel)
theorem ml_X4_X0_add : ((Jvm.Cond.methodLink "ShareStatistics" (87 : Nat) ({ cls := "ShareStatistics$Definitions", name := "add", desc := "(II)I" } : Jvm.MethodName))) ∈ allW := aw 379 (by decide +kernel) (by decide +kernel)
theorem im_X0_add : ((Jvm.Cond.instanceMethod ({ cls := "ShareStatistics$Definitions", name := "add", desc := "(II)I" } : Jvm.MethodName))) ∈ allW := aw 380 (by decide +kernel) (by decide +kernel)
theorem se_X0_add : ((Jvm.Cond.selects "ShareStatistics$Definitions" ({ cls := "ShareStatistics$Definitions", name := "add", desc := "(II)I" } : Jvm.MethodName) ({ cls := "ShareStatistics$Definitions", name := "add", desc := "(II)I" } : Jvm.MethodName))) ∈ allW := aw 381 (by decide +kernel) (by decide +kernel)
theorem ml_X0_X0_isFull : ((Jvm.Cond.methodLink "ShareStatistics$Definitions" (22 : Nat) ({ cls := "ShareStatistics$Definitions", name := "isFull", desc := "()Z" } : Jvm.MethodName))) ∈ allW := aw 383 (by decide +kernel) (by decide +kernel)
theorem ml_L_L_ask : ((Jvm.Cond.methodLink "ShareStatisticsLaw" (95 : Nat) ({ cls := "ShareStatisticsLaw", name := "ask", desc := "(LShareStatistics;IIII)I" } : Jvm.MethodName))) ∈ allW := aw 384 (by decide +kernel) (by decide +kernel)
theorem sm_L_ask : ((Jvm.Cond.static ({ cls := "ShareStatisticsLaw", name := "ask", desc := "(LShareStatistics;IIII)I" } : Jvm.MethodName))) ∈ allW := aw 385 (by decide +kernel) (by decide +kernel)
theorem ml_L_X4_ask : ((Jvm.Cond.methodLink "ShareStatisticsLaw" (27 : Nat) ({ cls := "ShareStatistics", name := "ask", desc := "(IIII)V" } : Jvm.MethodName))) ∈ allW := aw 387 (by decide +kernel) (by decide +kernel)
theorem im_X4_ask : ((Jvm.Cond.instanceMethod ({ cls := "ShareStatistics", name := "ask", desc := "(IIII)V" } : Jvm.MethodName))) ∈ allW := aw 388 (by decide +kernel) (by decide +kernel)
theorem se_X4_ask : ((Jvm.Cond.selects "ShareStatistics" ({ cls := "ShareStatistics", name := "ask", desc := "(IIII)V" } : Jvm.MethodName) ({ cls := "ShareStatistics", name := "ask", desc := "(IIII)V" } : Jvm.MethodName))) ∈ allW := aw 389 (by decide +kernel) (by decide +kernel)
theorem ml_X4_X4_refuseNoSpan : ((Jvm.Cond.methodLink "ShareStatistics" (90 : Nat) ({ cls := "ShareStatistics", name := "refuseNoSpan", desc := "(II)V" } : Jvm.MethodName))) ∈ allW := aw 391 (by decide +kernel) (by decide +kernel)
theorem sm_X4_refuseNoSpan : ((Jvm.Cond.static ({ cls := "ShareStatistics", name := "refuseNoSpan", desc := "(II)V" } : Jvm.MethodName))) ∈ allW := aw 392 (by decide +kernel) (by decide +kernel)
theorem ml_L_L_count : ((Jvm.Cond.methodLink "ShareStatisticsLaw" (99 : Nat) ({ cls := "ShareStatisticsLaw", name := "count", desc := "(LShareStatistics;I[J)I" } : Jvm.MethodName))) ∈ allW := aw 394 (by decide +kernel) (by decide +kernel)
theorem sm_L_count : ((Jvm.Cond.static ({ cls := "ShareStatisticsLaw", name := "count", desc := "(LShareStatistics;I[J)I" } : Jvm.MethodName))) ∈ allW := aw 395 (by decide +kernel) (by decide +kernel)
theorem ml_L_X4_count : ((Jvm.Cond.methodLink "ShareStatisticsLaw" (31 : Nat) ({ cls := "ShareStatistics", name := "count", desc := "(I)I" } : Jvm.MethodName))) ∈ allW := aw 397 (by decide +kernel) (by decide +kernel)
theorem im_X4_count : ((Jvm.Cond.instanceMethod ({ cls := "ShareStatistics", name := "count", desc := "(I)I" } : Jvm.MethodName))) ∈ allW := aw 398 (by decide +kernel) (by decide +kernel)
theorem se_X4_count : ((Jvm.Cond.selects "ShareStatistics" ({ cls := "ShareStatistics", name := "count", desc := "(I)I" } : Jvm.MethodName) ({ cls := "ShareStatistics", name := "count", desc := "(I)I" } : Jvm.MethodName))) ∈ allW := aw 399 (by decide +kernel) (by decide +kernel)
theorem ml_X4_X4_askedTotal : ((Jvm.Cond.methodLink "ShareStatistics" (93 : Nat) ({ cls := "ShareStatistics", name := "askedTotal", desc := "(III)I" } : Jvm.MethodName))) ∈ allW := aw 401 (by decide +kernel) (by decide +kernel)
theorem im_X4_askedTotal : ((Jvm.Cond.instanceMethod ({ cls := "ShareStatistics", name := "askedTotal", desc := "(III)I" } : Jvm.MethodName))) ∈ allW := aw 403 (by decide +kernel) (by decide +kernel)
theorem ml_X4_X1_total : ((Jvm.Cond.methodLink "ShareStatistics" (173 : Nat) ({ cls := "ShareStatistics$Incidents", name := "total", desc := "(ILShareStatistics$Definitions;IIII)I" } : Jvm.MethodName))) ∈ allW := aw 405 (by decide +kernel) (by decide +kernel)
theorem im_X1_total : ((Jvm.Cond.instanceMethod ({ cls := "ShareStatistics$Incidents", name := "total", desc := "(ILShareStatistics$Definitions;IIII)I" } : Jvm.MethodName))) ∈ allW := aw 406 (by decide +kernel) (by decide +kernel)
theorem se_X1_total : ((Jvm.Cond.selects "ShareStatistics$Incidents" ({ cls := "ShareStatistics$Incidents", name := "total", desc := "(ILShareStatistics$Definitions;IIII)I" } : Jvm.MethodName) ({ cls := "ShareStatistics$Incidents", name := "total", desc := "(ILShareStatistics$Definitions;IIII)I" } : Jvm.MethodName))) ∈ allW := aw 407 (by decide +kernel) (by decide +kernel)
theorem ml_X1_X0_markOn : ((Jvm.Cond.methodLink "ShareStatistics$Incidents" (51 : Nat) ({ cls := "ShareStatistics$Definitions", name := "markOn", desc := "(I)I" } : Jvm.MethodName))) ∈ allW := aw 409 (by decide +kernel) (by decide +kernel)
theorem ml_X1_X1_amount : ((Jvm.Cond.methodLink "ShareStatistics$Incidents" (57 : Nat) ({ cls := "ShareStatistics$Incidents", name := "amount", desc := "(III)I" } : Jvm.MethodName))) ∈ allW := aw 410 (by decide +kernel) (by decide +kernel)
theorem im_X1_amount : ((Jvm.Cond.instanceMethod ({ cls := "ShareStatistics$Incidents", name := "amount", desc := "(III)I" } : Jvm.MethodName))) ∈ allW := aw 412 (by decide +kernel) (by decide +kernel)
theorem ml_X1_X1_isWithin : ((Jvm.Cond.methodLink "ShareStatistics$Incidents" (83 : Nat) ({ cls := "ShareStatistics$Incidents", name := "isWithin", desc := "(II)Z" } : Jvm.MethodName))) ∈ allW := aw 414 (by decide +kernel) (by decide +kernel)
theorem im_X1_isWithin : ((Jvm.Cond.instanceMethod ({ cls := "ShareStatistics$Incidents", name := "isWithin", desc := "(II)Z" } : Jvm.MethodName))) ∈ allW := aw 416 (by decide +kernel) (by decide +kernel)
theorem ml_X1_X1_isWithout : ((Jvm.Cond.methodLink "ShareStatistics$Incidents" (87 : Nat) ({ cls := "ShareStatistics$Incidents", name := "isWithout", desc := "(II)Z" } : Jvm.MethodName))) ∈ allW := aw 418 (by decide +kernel) (by decide +kernel)
theorem im_X1_isWithout : ((Jvm.Cond.instanceMethod ({ cls := "ShareStatistics$Incidents", name := "isWithout", desc := "(II)Z" } : Jvm.MethodName))) ∈ allW := aw 420 (by decide +kernel) (by decide +kernel)
theorem ml_X1_X1_hasBothValues : ((Jvm.Cond.methodLink "ShareStatistics$Incidents" (61 : Nat) ({ cls := "ShareStatistics$Incidents", name := "hasBothValues", desc := "(I)Z" } : Jvm.MethodName))) ∈ allW := aw 422 (by decide +kernel) (by decide +kernel)
theorem im_X1_hasBothValues : ((Jvm.Cond.instanceMethod ({ cls := "ShareStatistics$Incidents", name := "hasBothValues", desc := "(I)Z" } : Jvm.MethodName))) ∈ allW := aw 424 (by decide +kernel) (by decide +kernel)
theorem ml_X1_X1_secondsOf : ((Jvm.Cond.methodLink "ShareStatistics$Incidents" (80 : Nat) ({ cls := "ShareStatistics$Incidents", name := "secondsOf", desc := "(I)I" } : Jvm.MethodName))) ∈ allW := aw 426 (by decide +kernel) (by decide +kernel)
theorem sm_X1_secondsOf : ((Jvm.Cond.static ({ cls := "ShareStatistics$Incidents", name := "secondsOf", desc := "(I)I" } : Jvm.MethodName))) ∈ allW := aw 427 (by decide +kernel) (by decide +kernel)
theorem ml_L_L_hour : ((Jvm.Cond.methodLink "ShareStatisticsLaw" (103 : Nat) ({ cls := "ShareStatisticsLaw", name := "hour", desc := "(LShareStatistics;I[J)I" } : Jvm.MethodName))) ∈ allW := aw 429 (by decide +kernel) (by decide +kernel)
theorem sm_L_hour : ((Jvm.Cond.static ({ cls := "ShareStatisticsLaw", name := "hour", desc := "(LShareStatistics;I[J)I" } : Jvm.MethodName))) ∈ allW := aw 430 (by decide +kernel) (by decide +kernel)
theorem ml_L_X4_hour : ((Jvm.Cond.methodLink "ShareStatisticsLaw" (35 : Nat) ({ cls := "ShareStatistics", name := "hour", desc := "(I)I" } : Jvm.MethodName))) ∈ allW := aw 432 (by decide +kernel) (by decide +kernel)
theorem im_X4_hour : ((Jvm.Cond.instanceMethod ({ cls := "ShareStatistics", name := "hour", desc := "(I)I" } : Jvm.MethodName))) ∈ allW := aw 433 (by decide +kernel) (by decide +kernel)
theorem se_X4_hour : ((Jvm.Cond.selects "ShareStatistics" ({ cls := "ShareStatistics", name := "hour", desc := "(I)I" } : Jvm.MethodName) ({ cls := "ShareStatistics", name := "hour", desc := "(I)I" } : Jvm.MethodName))) ∈ allW := aw 434 (by decide +kernel) (by decide +kernel)
theorem ml_X4_X1_inHour : ((Jvm.Cond.methodLink "ShareStatistics" (97 : Nat) ({ cls := "ShareStatistics$Incidents", name := "inHour", desc := "(IIIII)I" } : Jvm.MethodName))) ∈ allW := aw 436 (by decide +kernel) (by decide +kernel)
theorem im_X1_inHour : ((Jvm.Cond.instanceMethod ({ cls := "ShareStatistics$Incidents", name := "inHour", desc := "(IIIII)I" } : Jvm.MethodName))) ∈ allW := aw 437 (by decide +kernel) (by decide +kernel)
theorem se_X1_inHour : ((Jvm.Cond.selects "ShareStatistics$Incidents" ({ cls := "ShareStatistics$Incidents", name := "inHour", desc := "(IIIII)I" } : Jvm.MethodName) ({ cls := "ShareStatistics$Incidents", name := "inHour", desc := "(IIIII)I" } : Jvm.MethodName))) ∈ allW := aw 438 (by decide +kernel) (by decide +kernel)
theorem ml_L_L_share : ((Jvm.Cond.methodLink "ShareStatisticsLaw" (106 : Nat) ({ cls := "ShareStatisticsLaw", name := "share", desc := "(LShareStatistics;I[J)I" } : Jvm.MethodName))) ∈ allW := aw 440 (by decide +kernel) (by decide +kernel)
theorem sm_L_share : ((Jvm.Cond.static ({ cls := "ShareStatisticsLaw", name := "share", desc := "(LShareStatistics;I[J)I" } : Jvm.MethodName))) ∈ allW := aw 441 (by decide +kernel) (by decide +kernel)
theorem cl_L_ArithmeticException : ((Jvm.Cond.classLink "ShareStatisticsLaw" (41 : Nat) "java/lang/ArithmeticException")) ∈ allW := aw 443 (by decide +kernel) (by decide +kernel)
theorem ml_L_X4_share : ((Jvm.Cond.methodLink "ShareStatisticsLaw" (38 : Nat) ({ cls := "ShareStatistics", name := "share", desc := "(I)I" } : Jvm.MethodName))) ∈ allW := aw 444 (by decide +kernel) (by decide +kernel)
theorem im_X4_share : ((Jvm.Cond.instanceMethod ({ cls := "ShareStatistics", name := "share", desc := "(I)I" } : Jvm.MethodName))) ∈ allW := aw 445 (by decide +kernel) (by decide +kernel)
theorem se_X4_share : ((Jvm.Cond.selects "ShareStatistics" ({ cls := "ShareStatistics", name := "share", desc := "(I)I" } : Jvm.MethodName) ({ cls := "ShareStatistics", name := "share", desc := "(I)I" } : Jvm.MethodName))) ∈ allW := aw 446 (by decide +kernel) (by decide +kernel)
theorem ml_X4_X4_rowsWithin : ((Jvm.Cond.methodLink "ShareStatistics" (101 : Nat) ({ cls := "ShareStatistics", name := "rowsWithin", desc := "(II)I" } : Jvm.MethodName))) ∈ allW := aw 448 (by decide +kernel) (by decide +kernel)
theorem im_X4_rowsWithin : ((Jvm.Cond.instanceMethod ({ cls := "ShareStatistics", name := "rowsWithin", desc := "(II)I" } : Jvm.MethodName))) ∈ allW := aw 450 (by decide +kernel) (by decide +kernel)
theorem ml_X4_X4_rowsNotWithout : ((Jvm.Cond.methodLink "ShareStatistics" (104 : Nat) ({ cls := "ShareStatistics", name := "rowsNotWithout", desc := "(II)I" } : Jvm.MethodName))) ∈ allW := aw 452 (by decide +kernel) (by decide +kernel)
theorem im_X4_rowsNotWithout : ((Jvm.Cond.instanceMethod ({ cls := "ShareStatistics", name := "rowsNotWithout", desc := "(II)I" } : Jvm.MethodName))) ∈ allW := aw 454 (by decide +kernel) (by decide +kernel)
theorem ml_X4_X4_refuseNoShare : ((Jvm.Cond.methodLink "ShareStatistics" (107 : Nat) ({ cls := "ShareStatistics", name := "refuseNoShare", desc := "(I)V" } : Jvm.MethodName))) ∈ allW := aw 456 (by decide +kernel) (by decide +kernel)
theorem sm_X4_refuseNoShare : ((Jvm.Cond.static ({ cls := "ShareStatistics", name := "refuseNoShare", desc := "(I)V" } : Jvm.MethodName))) ∈ allW := aw 457 (by decide +kernel) (by decide +kernel)
theorem cl_X4_ArithmeticException : ((Jvm.Cond.classLink "ShareStatistics" (146 : Nat) "java/lang/ArithmeticException")) ∈ allW := aw 459 (by decide +kernel) (by decide +kernel)
theorem mk_ArithmeticException : ((Jvm.Cond.instantiable "java/lang/ArithmeticException" (6 : Nat))) ∈ allW := aw 460 (by decide +kernel) (by decide +kernel)
theorem ml_X4_ArithmeticException_init : ((Jvm.Cond.methodLink "ShareStatistics" (150 : Nat) ({ cls := "java/lang/ArithmeticException", name := "<init>", desc := "(Ljava/lang/String;)V" } : Jvm.MethodName))) ∈ allW := aw 469 (by decide +kernel) (by decide +kernel)
theorem ml_X4_X4_inLowestTerms : ((Jvm.Cond.methodLink "ShareStatistics" (111 : Nat) ({ cls := "ShareStatistics", name := "inLowestTerms", desc := "(III)I" } : Jvm.MethodName))) ∈ allW := aw 475 (by decide +kernel) (by decide +kernel)
theorem sm_X4_inLowestTerms : ((Jvm.Cond.static ({ cls := "ShareStatistics", name := "inLowestTerms", desc := "(III)I" } : Jvm.MethodName))) ∈ allW := aw 476 (by decide +kernel) (by decide +kernel)
theorem ml_X4_X4_commonDivisor : ((Jvm.Cond.methodLink "ShareStatistics" (189 : Nat) ({ cls := "ShareStatistics", name := "commonDivisor", desc := "(II)I" } : Jvm.MethodName))) ∈ allW := aw 478 (by decide +kernel) (by decide +kernel)
theorem sm_X4_commonDivisor : ((Jvm.Cond.static ({ cls := "ShareStatistics", name := "commonDivisor", desc := "(II)I" } : Jvm.MethodName))) ∈ allW := aw 479 (by decide +kernel) (by decide +kernel)
theorem ml_L_L_placed : ((Jvm.Cond.methodLink "ShareStatisticsLaw" (109 : Nat) ({ cls := "ShareStatisticsLaw", name := "placed", desc := "(LShareStatistics;I[J)I" } : Jvm.MethodName))) ∈ allW := aw 481 (by decide +kernel) (by decide +kernel)
theorem sm_L_placed : ((Jvm.Cond.static ({ cls := "ShareStatisticsLaw", name := "placed", desc := "(LShareStatistics;I[J)I" } : Jvm.MethodName))) ∈ allW := aw 482 (by decide +kernel) (by decide +kernel)
theorem ml_L_X4_placed : ((Jvm.Cond.methodLink "ShareStatisticsLaw" (43 : Nat) ({ cls := "ShareStatistics", name := "placed", desc := "(I)I" } : Jvm.MethodName))) ∈ allW := aw 484 (by decide +kernel) (by decide +kernel)
theorem im_X4_placed : ((Jvm.Cond.instanceMethod ({ cls := "ShareStatistics", name := "placed", desc := "(I)I" } : Jvm.MethodName))) ∈ allW := aw 485 (by decide +kernel) (by decide +kernel)
theorem se_X4_placed : ((Jvm.Cond.selects "ShareStatistics" ({ cls := "ShareStatistics", name := "placed", desc := "(I)I" } : Jvm.MethodName) ({ cls := "ShareStatistics", name := "placed", desc := "(I)I" } : Jvm.MethodName))) ∈ allW := aw 486 (by decide +kernel) (by decide +kernel)
theorem ml_X4_X1_sumAtPlace : ((Jvm.Cond.methodLink "ShareStatistics" (114 : Nat) ({ cls := "ShareStatistics$Incidents", name := "sumAtPlace", desc := "(IIIII)I" } : Jvm.MethodName))) ∈ allW := aw 488 (by decide +kernel) (by decide +kernel)
theorem im_X1_sumAtPlace : ((Jvm.Cond.instanceMethod ({ cls := "ShareStatistics$Incidents", name := "sumAtPlace", desc := "(IIIII)I" } : Jvm.MethodName))) ∈ allW := aw 489 (by decide +kernel) (by decide +kernel)
theorem se_X1_sumAtPlace : ((Jvm.Cond.selects "ShareStatistics$Incidents" ({ cls := "ShareStatistics$Incidents", name := "sumAtPlace", desc := "(IIIII)I" } : Jvm.MethodName) ({ cls := "ShareStatistics$Incidents", name := "sumAtPlace", desc := "(IIIII)I" } : Jvm.MethodName))) ∈ allW := aw 490 (by decide +kernel) (by decide +kernel)
theorem ml_X1_X1_sortIn : ((Jvm.Cond.methodLink "ShareStatistics$Incidents" (65 : Nat) ({ cls := "ShareStatistics$Incidents", name := "sortIn", desc := "(II)V" } : Jvm.MethodName))) ∈ allW := aw 492 (by decide +kernel) (by decide +kernel)
theorem im_X1_sortIn : ((Jvm.Cond.instanceMethod ({ cls := "ShareStatistics$Incidents", name := "sortIn", desc := "(II)V" } : Jvm.MethodName))) ∈ allW := aw 494 (by decide +kernel) (by decide +kernel)
theorem ml_L_L_compare : ((Jvm.Cond.methodLink "ShareStatisticsLaw" (116 : Nat) ({ cls := "ShareStatisticsLaw", name := "compare", desc := "(LShareStatistics;II[J)I" } : Jvm.MethodName))) ∈ allW := aw 496 (by decide +kernel) (by decide +kernel)
theorem sm_L_compare : ((Jvm.Cond.static ({ cls := "ShareStatisticsLaw", name := "compare", desc := "(LShareStatistics;II[J)I" } : Jvm.MethodName))) ∈ allW := aw 497 (by decide +kernel) (by decide +kernel)
theorem ml_L_X4_compare : ((Jvm.Cond.methodLink "ShareStatisticsLaw" (46 : Nat) ({ cls := "ShareStatistics", name := "compare", desc := "(II)I" } : Jvm.MethodName))) ∈ allW := aw 499 (by decide +kernel) (by decide +kernel)
theorem im_X4_compare : ((Jvm.Cond.instanceMethod ({ cls := "ShareStatistics", name := "compare", desc := "(II)I" } : Jvm.MethodName))) ∈ allW := aw 500 (by decide +kernel) (by decide +kernel)
theorem se_X4_compare : ((Jvm.Cond.selects "ShareStatistics" ({ cls := "ShareStatistics", name := "compare", desc := "(II)I" } : Jvm.MethodName) ({ cls := "ShareStatistics", name := "compare", desc := "(II)I" } : Jvm.MethodName))) ∈ allW := aw 501 (by decide +kernel) (by decide +kernel)
theorem ml_X4_Integer_compare : ((Jvm.Cond.methodLink "ShareStatistics" (120 : Nat) ({ cls := "java/lang/Integer", name := "compare", desc := "(II)I" } : Jvm.MethodName))) ∈ allW := aw 503 (by decide +kernel) (by decide +kernel)
theorem ml_L_L_trend : ((Jvm.Cond.methodLink "ShareStatisticsLaw" (119 : Nat) ({ cls := "ShareStatisticsLaw", name := "trend", desc := "(LShareStatistics;IIII[J)I" } : Jvm.MethodName))) ∈ allW := aw 506 (by decide +kernel) (by decide +kernel)
theorem sm_L_trend : ((Jvm.Cond.static ({ cls := "ShareStatisticsLaw", name := "trend", desc := "(LShareStatistics;IIII[J)I" } : Jvm.MethodName))) ∈ allW := aw 507 (by decide +kernel) (by decide +kernel)
theorem ml_L_X4_trend : ((Jvm.Cond.methodLink "ShareStatisticsLaw" (49 : Nat) ({ cls := "ShareStatistics", name := "trend", desc := "(IIII)I" } : Jvm.MethodName))) ∈ allW := aw 509 (by decide +kernel) (by decide +kernel)
theorem im_X4_trend : ((Jvm.Cond.instanceMethod ({ cls := "ShareStatistics", name := "trend", desc := "(IIII)I" } : Jvm.MethodName))) ∈ allW := aw 510 (by decide +kernel) (by decide +kernel)
theorem se_X4_trend : ((Jvm.Cond.selects "ShareStatistics" ({ cls := "ShareStatistics", name := "trend", desc := "(IIII)I" } : Jvm.MethodName) ({ cls := "ShareStatistics", name := "trend", desc := "(IIII)I" } : Jvm.MethodName))) ∈ allW := aw 511 (by decide +kernel) (by decide +kernel)
theorem ml_X4_X3_start : ((Jvm.Cond.methodLink "ShareStatistics" (125 : Nat) ({ cls := "ShareStatistics$Trend", name := "start", desc := "(I)V" } : Jvm.MethodName))) ∈ allW := aw 513 (by decide +kernel) (by decide +kernel)
theorem im_X3_start : ((Jvm.Cond.instanceMethod ({ cls := "ShareStatistics$Trend", name := "start", desc := "(I)V" } : Jvm.MethodName))) ∈ allW := aw 514 (by decide +kernel) (by decide +kernel)
theorem se_X3_start : ((Jvm.Cond.selects "ShareStatistics$Trend" ({ cls := "ShareStatistics$Trend", name := "start", desc := "(I)V" } : Jvm.MethodName) ({ cls := "ShareStatistics$Trend", name := "start", desc := "(I)V" } : Jvm.MethodName))) ∈ allW := aw 515 (by decide +kernel) (by decide +kernel)
theorem ml_X3_Math_min : ((Jvm.Cond.methodLink "ShareStatistics$Trend" (15 : Nat) ({ cls := "java/lang/Math", name := "min", desc := "(II)I" } : Jvm.MethodName))) ∈ allW := aw 517 (by decide +kernel) (by decide +kernel)
theorem ml_X4_X1_number : ((Jvm.Cond.methodLink "ShareStatistics" (128 : Nat) ({ cls := "ShareStatistics$Incidents", name := "number", desc := "(IIII)I" } : Jvm.MethodName))) ∈ allW := aw 520 (by decide +kernel) (by decide +kernel)
theorem ml_X4_X3_setCount : ((Jvm.Cond.methodLink "ShareStatistics" (132 : Nat) ({ cls := "ShareStatistics$Trend", name := "setCount", desc := "(II)V" } : Jvm.MethodName))) ∈ allW := aw 521 (by decide +kernel) (by decide +kernel)
theorem im_X3_setCount : ((Jvm.Cond.instanceMethod ({ cls := "ShareStatistics$Trend", name := "setCount", desc := "(II)V" } : Jvm.MethodName))) ∈ allW := aw 522 (by decide +kernel) (by decide +kernel)
theorem se_X3_setCount : ((Jvm.Cond.selects "ShareStatistics$Trend" ({ cls := "ShareStatistics$Trend", name := "setCount", desc := "(II)V" } : Jvm.MethodName) ({ cls := "ShareStatistics$Trend", name := "setCount", desc := "(II)V" } : Jvm.MethodName))) ∈ allW := aw 523 (by decide +kernel) (by decide +kernel)
theorem ml_X4_X3_sum : ((Jvm.Cond.methodLink "ShareStatistics" (135 : Nat) ({ cls := "ShareStatistics$Trend", name := "sum", desc := "()I" } : Jvm.MethodName))) ∈ allW := aw 525 (by decide +kernel) (by decide +kernel)
theorem im_X3_sum : ((Jvm.Cond.instanceMethod ({ cls := "ShareStatistics$Trend", name := "sum", desc := "()I" } : Jvm.MethodName))) ∈ allW := aw 526 (by decide +kernel) (by decide +kernel)
theorem se_X3_sum : ((Jvm.Cond.selects "ShareStatistics$Trend" ({ cls := "ShareStatistics$Trend", name := "sum", desc := "()I" } : Jvm.MethodName) ({ cls := "ShareStatistics$Trend", name := "sum", desc := "()I" } : Jvm.MethodName))) ∈ allW := aw 527 (by decide +kernel) (by decide +kernel)
theorem ml_X3_X3_gain : ((Jvm.Cond.methodLink "ShareStatistics$Trend" (25 : Nat) ({ cls := "ShareStatistics$Trend", name := "gain", desc := "([IIII)I" } : Jvm.MethodName))) ∈ allW := aw 529 (by decide +kernel) (by decide +kernel)
theorem sm_X3_gain : ((Jvm.Cond.static ({ cls := "ShareStatistics$Trend", name := "gain", desc := "([IIII)I" } : Jvm.MethodName))) ∈ allW := aw 530 (by decide +kernel) (by decide +kernel)
theorem ml_X3_X3_isTaken : ((Jvm.Cond.methodLink "ShareStatistics$Trend" (33 : Nat) ({ cls := "ShareStatistics$Trend", name := "isTaken", desc := "(II)Z" } : Jvm.MethodName))) ∈ allW := aw 532 (by decide +kernel) (by decide +kernel)
theorem sm_X3_isTaken : ((Jvm.Cond.static ({ cls := "ShareStatistics$Trend", name := "isTaken", desc := "(II)Z" } : Jvm.MethodName))) ∈ allW := aw 533 (by decide +kernel) (by decide +kernel)
theorem ml_X3_Integer_compare : ((Jvm.Cond.methodLink "ShareStatistics$Trend" (37 : Nat) ({ cls := "java/lang/Integer", name := "compare", desc := "(II)I" } : Jvm.MethodName))) ∈ allW := aw 535 (by decide +kernel) (by decide +kernel)
theorem ml_X4_X3_ordersNotBelow : ((Jvm.Cond.methodLink "ShareStatistics" (138 : Nat) ({ cls := "ShareStatistics$Trend", name := "ordersNotBelow", desc := "(I)I" } : Jvm.MethodName))) ∈ allW := aw 536 (by decide +kernel) (by decide +kernel)
theorem im_X3_ordersNotBelow : ((Jvm.Cond.instanceMethod ({ cls := "ShareStatistics$Trend", name := "ordersNotBelow", desc := "(I)I" } : Jvm.MethodName))) ∈ allW := aw 537 (by decide +kernel) (by decide +kernel)
theorem se_X3_ordersNotBelow : ((Jvm.Cond.selects "ShareStatistics$Trend" ({ cls := "ShareStatistics$Trend", name := "ordersNotBelow", desc := "(I)I" } : Jvm.MethodName) ({ cls := "ShareStatistics$Trend", name := "ordersNotBelow", desc := "(I)I" } : Jvm.MethodName))) ∈ allW := aw 538 (by decide +kernel) (by decide +kernel)
theorem ml_X3_X3_ordersBehind : ((Jvm.Cond.methodLink "ShareStatistics$Trend" (29 : Nat) ({ cls := "ShareStatistics$Trend", name := "ordersBehind", desc := "([IIIIII)I" } : Jvm.MethodName))) ∈ allW := aw 540 (by decide +kernel) (by decide +kernel)
theorem sm_X3_ordersBehind : ((Jvm.Cond.static ({ cls := "ShareStatistics$Trend", name := "ordersBehind", desc := "([IIIIII)I" } : Jvm.MethodName))) ∈ allW := aw 541 (by decide +kernel) (by decide +kernel)
theorem ml_X4_X3_orders : ((Jvm.Cond.methodLink "ShareStatistics" (142 : Nat) ({ cls := "ShareStatistics$Trend", name := "orders", desc := "()I" } : Jvm.MethodName))) ∈ allW := aw 543 (by decide +kernel) (by decide +kernel)
theorem im_X3_orders : ((Jvm.Cond.instanceMethod ({ cls := "ShareStatistics$Trend", name := "orders", desc := "()I" } : Jvm.MethodName))) ∈ allW := aw 544 (by decide +kernel) (by decide +kernel)
theorem se_X3_orders : ((Jvm.Cond.selects "ShareStatistics$Trend" ({ cls := "ShareStatistics$Trend", name := "orders", desc := "()I" } : Jvm.MethodName) ({ cls := "ShareStatistics$Trend", name := "orders", desc := "()I" } : Jvm.MethodName))) ∈ allW := aw 545 (by decide +kernel) (by decide +kernel)
theorem ml_L_L_people : ((Jvm.Cond.methodLink "ShareStatisticsLaw" (123 : Nat) ({ cls := "ShareStatisticsLaw", name := "people", desc := "(LShareStatistics;II)I" } : Jvm.MethodName))) ∈ allW := aw 547 (by decide +kernel) (by decide +kernel)
theorem sm_L_people : ((Jvm.Cond.static ({ cls := "ShareStatisticsLaw", name := "people", desc := "(LShareStatistics;II)I" } : Jvm.MethodName))) ∈ allW := aw 548 (by decide +kernel) (by decide +kernel)
theorem ml_L_X4_people : ((Jvm.Cond.methodLink "ShareStatisticsLaw" (53 : Nat) ({ cls := "ShareStatistics", name := "people", desc := "(II)V" } : Jvm.MethodName))) ∈ allW := aw 550 (by decide +kernel) (by decide +kernel)
theorem im_X4_people : ((Jvm.Cond.instanceMethod ({ cls := "ShareStatistics", name := "people", desc := "(II)V" } : Jvm.MethodName))) ∈ allW := aw 551 (by decide +kernel) (by decide +kernel)
theorem se_X4_people : ((Jvm.Cond.selects "ShareStatistics" ({ cls := "ShareStatistics", name := "people", desc := "(II)V" } : Jvm.MethodName) ({ cls := "ShareStatistics", name := "people", desc := "(II)V" } : Jvm.MethodName))) ∈ allW := aw 552 (by decide +kernel) (by decide +kernel)
theorem ct_X4_145 : ((Jvm.Cond.constant "ShareStatistics" (145 : Nat) (1000000 : Int32))) ∈ allW := aw 554 (by decide +kernel) (by decide +kernel)
theorem ml_L_L_perThousand : ((Jvm.Cond.methodLink "ShareStatisticsLaw" (127 : Nat) ({ cls := "ShareStatisticsLaw", name := "perThousand", desc := "(LShareStatistics;I[J)I" } : Jvm.MethodName))) ∈ allW := aw 555 (by decide +kernel) (by decide +kernel)
theorem sm_L_perThousand : ((Jvm.Cond.static ({ cls := "ShareStatisticsLaw", name := "perThousand", desc := "(LShareStatistics;I[J)I" } : Jvm.MethodName))) ∈ allW := aw 556 (by decide +kernel) (by decide +kernel)
theorem ml_L_X4_perThousand : ((Jvm.Cond.methodLink "ShareStatisticsLaw" (57 : Nat) ({ cls := "ShareStatistics", name := "perThousand", desc := "(I)I" } : Jvm.MethodName))) ∈ allW := aw 558 (by decide +kernel) (by decide +kernel)
theorem im_X4_perThousand : ((Jvm.Cond.instanceMethod ({ cls := "ShareStatistics", name := "perThousand", desc := "(I)I" } : Jvm.MethodName))) ∈ allW := aw 559 (by decide +kernel) (by decide +kernel)
theorem se_X4_perThousand : ((Jvm.Cond.selects "ShareStatistics" ({ cls := "ShareStatistics", name := "perThousand", desc := "(I)I" } : Jvm.MethodName) ({ cls := "ShareStatistics", name := "perThousand", desc := "(I)I" } : Jvm.MethodName))) ∈ allW := aw 560 (by decide +kernel) (by decide +kernel)
theorem ml_X4_X4_rowsOfArea : ((Jvm.Cond.methodLink "ShareStatistics" (151 : Nat) ({ cls := "ShareStatistics", name := "rowsOfArea", desc := "(I)I" } : Jvm.MethodName))) ∈ allW := aw 563 (by decide +kernel) (by decide +kernel)
theorem im_X4_rowsOfArea : ((Jvm.Cond.instanceMethod ({ cls := "ShareStatistics", name := "rowsOfArea", desc := "(I)I" } : Jvm.MethodName))) ∈ allW := aw 565 (by decide +kernel) (by decide +kernel)
theorem ml_L_L_rank : ((Jvm.Cond.methodLink "ShareStatisticsLaw" (130 : Nat) ({ cls := "ShareStatisticsLaw", name := "rank", desc := "(LShareStatistics;I[J)I" } : Jvm.MethodName))) ∈ allW := aw 567 (by decide +kernel) (by decide +kernel)
theorem sm_L_rank : ((Jvm.Cond.static ({ cls := "ShareStatisticsLaw", name := "rank", desc := "(LShareStatistics;I[J)I" } : Jvm.MethodName))) ∈ allW := aw 568 (by decide +kernel) (by decide +kernel)
theorem ml_L_X4_rank : ((Jvm.Cond.methodLink "ShareStatisticsLaw" (60 : Nat) ({ cls := "ShareStatistics", name := "rank", desc := "(I)I" } : Jvm.MethodName))) ∈ allW := aw 570 (by decide +kernel) (by decide +kernel)
theorem im_X4_rank : ((Jvm.Cond.instanceMethod ({ cls := "ShareStatistics", name := "rank", desc := "(I)I" } : Jvm.MethodName))) ∈ allW := aw 571 (by decide +kernel) (by decide +kernel)
theorem se_X4_rank : ((Jvm.Cond.selects "ShareStatistics" ({ cls := "ShareStatistics", name := "rank", desc := "(I)I" } : Jvm.MethodName) ({ cls := "ShareStatistics", name := "rank", desc := "(I)I" } : Jvm.MethodName))) ∈ allW := aw 572 (by decide +kernel) (by decide +kernel)
theorem ml_L_L_least : ((Jvm.Cond.methodLink "ShareStatisticsLaw" (133 : Nat) ({ cls := "ShareStatisticsLaw", name := "least", desc := "(LShareStatistics;I)I" } : Jvm.MethodName))) ∈ allW := aw 574 (by decide +kernel) (by decide +kernel)
theorem sm_L_least : ((Jvm.Cond.static ({ cls := "ShareStatisticsLaw", name := "least", desc := "(LShareStatistics;I)I" } : Jvm.MethodName))) ∈ allW := aw 575 (by decide +kernel) (by decide +kernel)
theorem ml_L_X4_least : ((Jvm.Cond.methodLink "ShareStatisticsLaw" (63 : Nat) ({ cls := "ShareStatistics", name := "least", desc := "(I)V" } : Jvm.MethodName))) ∈ allW := aw 577 (by decide +kernel) (by decide +kernel)
theorem im_X4_least : ((Jvm.Cond.instanceMethod ({ cls := "ShareStatistics", name := "least", desc := "(I)V" } : Jvm.MethodName))) ∈ allW := aw 578 (by decide +kernel) (by decide +kernel)
theorem se_X4_least : ((Jvm.Cond.selects "ShareStatistics" ({ cls := "ShareStatistics", name := "least", desc := "(I)V" } : Jvm.MethodName) ({ cls := "ShareStatistics", name := "least", desc := "(I)V" } : Jvm.MethodName))) ∈ allW := aw 579 (by decide +kernel) (by decide +kernel)
theorem ml_X4_X2_setLeast : ((Jvm.Cond.methodLink "ShareStatistics" (154 : Nat) ({ cls := "ShareStatistics$Secrecy", name := "setLeast", desc := "(I)V" } : Jvm.MethodName))) ∈ allW := aw 581 (by decide +kernel) (by decide +kernel)
theorem im_X2_setLeast : ((Jvm.Cond.instanceMethod ({ cls := "ShareStatistics$Secrecy", name := "setLeast", desc := "(I)V" } : Jvm.MethodName))) ∈ allW := aw 582 (by decide +kernel) (by decide +kernel)
theorem se_X2_setLeast : ((Jvm.Cond.selects "ShareStatistics$Secrecy" ({ cls := "ShareStatistics$Secrecy", name := "setLeast", desc := "(I)V" } : Jvm.MethodName) ({ cls := "ShareStatistics$Secrecy", name := "setLeast", desc := "(I)V" } : Jvm.MethodName))) ∈ allW := aw 583 (by decide +kernel) (by decide +kernel)
theorem ml_L_L_shown : ((Jvm.Cond.methodLink "ShareStatisticsLaw" (137 : Nat) ({ cls := "ShareStatisticsLaw", name := "shown", desc := "(LShareStatistics;I[J)I" } : Jvm.MethodName))) ∈ allW := aw 585 (by decide +kernel) (by decide +kernel)
theorem sm_L_shown : ((Jvm.Cond.static ({ cls := "ShareStatisticsLaw", name := "shown", desc := "(LShareStatistics;I[J)I" } : Jvm.MethodName))) ∈ allW := aw 586 (by decide +kernel) (by decide +kernel)
theorem ml_L_X4_shown : ((Jvm.Cond.methodLink "ShareStatisticsLaw" (67 : Nat) ({ cls := "ShareStatistics", name := "shown", desc := "(I)I" } : Jvm.MethodName))) ∈ allW := aw 588 (by decide +kernel) (by decide +kernel)
theorem im_X4_shown : ((Jvm.Cond.instanceMethod ({ cls := "ShareStatistics", name := "shown", desc := "(I)I" } : Jvm.MethodName))) ∈ allW := aw 589 (by decide +kernel) (by decide +kernel)
theorem se_X4_shown : ((Jvm.Cond.selects "ShareStatistics" ({ cls := "ShareStatistics", name := "shown", desc := "(I)I" } : Jvm.MethodName) ({ cls := "ShareStatistics", name := "shown", desc := "(I)I" } : Jvm.MethodName))) ∈ allW := aw 590 (by decide +kernel) (by decide +kernel)
theorem ml_X4_X2_rowsShown : ((Jvm.Cond.methodLink "ShareStatistics" (161 : Nat) ({ cls := "ShareStatistics$Secrecy", name := "rowsShown", desc := "(I)I" } : Jvm.MethodName))) ∈ allW := aw 592 (by decide +kernel) (by decide +kernel)
theorem im_X2_rowsShown : ((Jvm.Cond.instanceMethod ({ cls := "ShareStatistics$Secrecy", name := "rowsShown", desc := "(I)I" } : Jvm.MethodName))) ∈ allW := aw 593 (by decide +kernel) (by decide +kernel)
theorem se_X2_rowsShown : ((Jvm.Cond.selects "ShareStatistics$Secrecy" ({ cls := "ShareStatistics$Secrecy", name := "rowsShown", desc := "(I)I" } : Jvm.MethodName) ({ cls := "ShareStatistics$Secrecy", name := "rowsShown", desc := "(I)I" } : Jvm.MethodName))) ∈ allW := aw 594 (by decide +kernel) (by decide +kernel)
theorem ml_L_L_work : ((Jvm.Cond.methodLink "ShareStatisticsLaw" (144 : Nat) ({ cls := "ShareStatisticsLaw", name := "work", desc := "(LShareStatistics;II[J)I" } : Jvm.MethodName))) ∈ allW := aw 596 (by decide +kernel) (by decide +kernel)
theorem sm_L_work : ((Jvm.Cond.static ({ cls := "ShareStatisticsLaw", name := "work", desc := "(LShareStatistics;II[J)I" } : Jvm.MethodName))) ∈ allW := aw 597 (by decide +kernel) (by decide +kernel)
theorem ml_L_X4_work : ((Jvm.Cond.methodLink "ShareStatisticsLaw" (70 : Nat) ({ cls := "ShareStatistics", name := "work", desc := "(II)I" } : Jvm.MethodName))) ∈ allW := aw 599 (by decide +kernel) (by decide +kernel)
theorem im_X4_work : ((Jvm.Cond.instanceMethod ({ cls := "ShareStatistics", name := "work", desc := "(II)I" } : Jvm.MethodName))) ∈ allW := aw 600 (by decide +kernel) (by decide +kernel)
theorem se_X4_work : ((Jvm.Cond.selects "ShareStatistics" ({ cls := "ShareStatistics", name := "work", desc := "(II)I" } : Jvm.MethodName) ({ cls := "ShareStatistics", name := "work", desc := "(II)I" } : Jvm.MethodName))) ∈ allW := aw 601 (by decide +kernel) (by decide +kernel)
theorem ml_X4_X1_ofStation : ((Jvm.Cond.methodLink "ShareStatistics" (167 : Nat) ({ cls := "ShareStatistics$Incidents", name := "ofStation", desc := "(III)I" } : Jvm.MethodName))) ∈ allW := aw 603 (by decide +kernel) (by decide +kernel)
theorem im_X1_ofStation : ((Jvm.Cond.instanceMethod ({ cls := "ShareStatistics$Incidents", name := "ofStation", desc := "(III)I" } : Jvm.MethodName))) ∈ allW := aw 604 (by decide +kernel) (by decide +kernel)
theorem se_X1_ofStation : ((Jvm.Cond.selects "ShareStatistics$Incidents" ({ cls := "ShareStatistics$Incidents", name := "ofStation", desc := "(III)I" } : Jvm.MethodName) ({ cls := "ShareStatistics$Incidents", name := "ofStation", desc := "(III)I" } : Jvm.MethodName))) ∈ allW := aw 605 (by decide +kernel) (by decide +kernel)
theorem ml_X1_X1_isWork : ((Jvm.Cond.methodLink "ShareStatistics$Incidents" (76 : Nat) ({ cls := "ShareStatistics$Incidents", name := "isWork", desc := "(IIII)Z" } : Jvm.MethodName))) ∈ allW := aw 607 (by decide +kernel) (by decide +kernel)
theorem im_X1_isWork : ((Jvm.Cond.instanceMethod ({ cls := "ShareStatistics$Incidents", name := "isWork", desc := "(IIII)Z" } : Jvm.MethodName))) ∈ allW := aw 609 (by decide +kernel) (by decide +kernel)
theorem ml_X4_X1_secondsOfStation : ((Jvm.Cond.methodLink "ShareStatistics" (170 : Nat) ({ cls := "ShareStatistics$Incidents", name := "secondsOfStation", desc := "(III)I" } : Jvm.MethodName))) ∈ allW := aw 611 (by decide +kernel) (by decide +kernel)
theorem im_X1_secondsOfStation : ((Jvm.Cond.instanceMethod ({ cls := "ShareStatistics$Incidents", name := "secondsOfStation", desc := "(III)I" } : Jvm.MethodName))) ∈ allW := aw 612 (by decide +kernel) (by decide +kernel)
theorem se_X1_secondsOfStation : ((Jvm.Cond.selects "ShareStatistics$Incidents" ({ cls := "ShareStatistics$Incidents", name := "secondsOfStation", desc := "(III)I" } : Jvm.MethodName) ({ cls := "ShareStatistics$Incidents", name := "secondsOfStation", desc := "(III)I" } : Jvm.MethodName))) ∈ allW := aw 613 (by decide +kernel) (by decide +kernel)
theorem cl_L_X5 : ((Jvm.Cond.classLink "ShareStatisticsLaw" (74 : Nat) "ShareStatisticsModel")) ∈ allW := aw 615 (by decide +kernel) (by decide +kernel)
theorem mk_X5 : ((Jvm.Cond.instantiable "ShareStatisticsModel" (24 : Nat))) ∈ allW := aw 616 (by decide +kernel) (by decide +kernel)
theorem ml_L_X5_init : ((Jvm.Cond.methodLink "ShareStatisticsLaw" (76 : Nat) ({ cls := "ShareStatisticsModel", name := "<init>", desc := "()V" } : Jvm.MethodName))) ∈ allW := aw 617 (by decide +kernel) (by decide +kernel)
theorem im_X5_init : ((Jvm.Cond.instanceMethod ({ cls := "ShareStatisticsModel", name := "<init>", desc := "()V" } : Jvm.MethodName))) ∈ allW := aw 618 (by decide +kernel) (by decide +kernel)
theorem ml_X5_Object_init : ((Jvm.Cond.methodLink "ShareStatisticsModel" (1 : Nat) ({ cls := "java/lang/Object", name := "<init>", desc := "()V" } : Jvm.MethodName))) ∈ allW := aw 620 (by decide +kernel) (by decide +kernel)
theorem fl_X5_thrown : ((Jvm.Cond.fieldLink "ShareStatisticsModel" (72 : Nat) "ShareStatisticsModel" "thrown" "I")) ∈ allW := aw 621 (by decide +kernel) (by decide +kernel)
theorem fl_X5_rows : ((Jvm.Cond.fieldLink "ShareStatisticsModel" (87 : Nat) "ShareStatisticsModel" "rows" "I")) ∈ allW := aw 622 (by decide +kernel) (by decide +kernel)
theorem fl_X5_day : ((Jvm.Cond.fieldLink "ShareStatisticsModel" (7 : Nat) "ShareStatisticsModel" "day" "[I")) ∈ allW := aw 623 (by decide +kernel) (by decide +kernel)
theorem fl_X5_hour : ((Jvm.Cond.fieldLink "ShareStatisticsModel" (13 : Nat) "ShareStatisticsModel" "hour" "[I")) ∈ allW := aw 624 (by decide +kernel) (by decide +kernel)
theorem fl_X5_kind : ((Jvm.Cond.fieldLink "ShareStatisticsModel" (16 : Nat) "ShareStatisticsModel" "kind" "[I")) ∈ allW := aw 625 (by decide +kernel) (by decide +kernel)
theorem fl_X5_area : ((Jvm.Cond.fieldLink "ShareStatisticsModel" (19 : Nat) "ShareStatisticsModel" "area" "[I")) ∈ allW := aw 626 (by decide +kernel) (by decide +kernel)
theorem fl_X5_station : ((Jvm.Cond.fieldLink "ShareStatisticsModel" (22 : Nat) "ShareStatisticsModel" "station" "[I")) ∈ allW := aw 627 (by decide +kernel) (by decide +kernel)
theorem fl_X5_wrong : ((Jvm.Cond.fieldLink "ShareStatisticsModel" (25 : Nat) "ShareStatisticsModel" "wrong" "[Z")) ∈ allW := aw 628 (by decide +kernel) (by decide +kernel)
theorem fl_X5_hidden : ((Jvm.Cond.fieldLink "ShareStatisticsModel" (29 : Nat) "ShareStatisticsModel" "hidden" "[Z")) ∈ allW := aw 629 (by decide +kernel) (by decide +kernel)
theorem fl_X5_turnOut : ((Jvm.Cond.fieldLink "ShareStatisticsModel" (32 : Nat) "ShareStatisticsModel" "turnOut" "[I")) ∈ allW := aw 630 (by decide +kernel) (by decide +kernel)
theorem fl_X5_travel : ((Jvm.Cond.fieldLink "ShareStatisticsModel" (35 : Nat) "ShareStatisticsModel" "travel" "[I")) ∈ allW := aw 631 (by decide +kernel) (by decide +kernel)
theorem fl_X5_definitions : ((Jvm.Cond.fieldLink "ShareStatisticsModel" (94 : Nat) "ShareStatisticsModel" "definitions" "I")) ∈ allW := aw 632 (by decide +kernel) (by decide +kernel)
theorem fl_X5_since : ((Jvm.Cond.fieldLink "ShareStatisticsModel" (38 : Nat) "ShareStatisticsModel" "since" "[I")) ∈ allW := aw 633 (by decide +kernel) (by decide +kernel)
theorem fl_X5_mark : ((Jvm.Cond.fieldLink "ShareStatisticsModel" (41 : Nat) "ShareStatisticsModel" "mark" "[I")) ∈ allW := aw 634 (by decide +kernel) (by decide +kernel)
theorem fl_X5_from : ((Jvm.Cond.fieldLink "ShareStatisticsModel" (97 : Nat) "ShareStatisticsModel" "from" "I")) ∈ allW := aw 635 (by decide +kernel) (by decide +kernel)
theorem fl_X5_to : ((Jvm.Cond.fieldLink "ShareStatisticsModel" (44 : Nat) "ShareStatisticsModel" "to" "I")) ∈ allW := aw 636 (by decide +kernel) (by decide +kernel)
theorem fl_X5_askedKind : ((Jvm.Cond.fieldLink "ShareStatisticsModel" (48 : Nat) "ShareStatisticsModel" "askedKind" "I")) ∈ allW := aw 637 (by decide +kernel) (by decide +kernel)
theorem fl_X5_askedArea : ((Jvm.Cond.fieldLink "ShareStatisticsModel" (51 : Nat) "ShareStatisticsModel" "askedArea" "I")) ∈ allW := aw 638 (by decide +kernel) (by decide +kernel)
theorem fl_X5_people : ((Jvm.Cond.fieldLink "ShareStatisticsModel" (54 : Nat) "ShareStatisticsModel" "people" "[I")) ∈ allW := aw 639 (by decide +kernel) (by decide +kernel)
theorem fl_X5_least : ((Jvm.Cond.fieldLink "ShareStatisticsModel" (57 : Nat) "ShareStatisticsModel" "least" "I")) ∈ allW := aw 640 (by decide +kernel) (by decide +kernel)
theorem fl_X5_counts : ((Jvm.Cond.fieldLink "ShareStatisticsModel" (60 : Nat) "ShareStatisticsModel" "counts" "[I")) ∈ allW := aw 641 (by decide +kernel) (by decide +kernel)
theorem fl_X5_table : ((Jvm.Cond.fieldLink "ShareStatisticsModel" (63 : Nat) "ShareStatisticsModel" "table" "[I")) ∈ allW := aw 642 (by decide +kernel) (by decide +kernel)
theorem fl_X5_sums : ((Jvm.Cond.fieldLink "ShareStatisticsModel" (66 : Nat) "ShareStatisticsModel" "sums" "[I")) ∈ allW := aw 643 (by decide +kernel) (by decide +kernel)
theorem fl_X5_isJoined : ((Jvm.Cond.fieldLink "ShareStatisticsModel" (69 : Nat) "ShareStatisticsModel" "isJoined" "[Z")) ∈ allW := aw 644 (by decide +kernel) (by decide +kernel)
theorem ml_L_X5_thrown : ((Jvm.Cond.methodLink "ShareStatisticsLaw" (83 : Nat) ({ cls := "ShareStatisticsModel", name := "thrown", desc := "()I" } : Jvm.MethodName))) ∈ allW := aw 694 (by decide +kernel) (by decide +kernel)
theorem im_X5_thrown : ((Jvm.Cond.instanceMethod ({ cls := "ShareStatisticsModel", name := "thrown", desc := "()I" } : Jvm.MethodName))) ∈ allW := aw 695 (by decide +kernel) (by decide +kernel)
theorem se_X5_thrown : ((Jvm.Cond.selects "ShareStatisticsModel" ({ cls := "ShareStatisticsModel", name := "thrown", desc := "()I" } : Jvm.MethodName) ({ cls := "ShareStatisticsModel", name := "thrown", desc := "()I" } : Jvm.MethodName))) ∈ allW := aw 696 (by decide +kernel) (by decide +kernel)
theorem ml_L_X5_row : ((Jvm.Cond.methodLink "ShareStatisticsLaw" (82 : Nat) ({ cls := "ShareStatisticsModel", name := "row", desc := "(IIIIII)I" } : Jvm.MethodName))) ∈ allW := aw 698 (by decide +kernel) (by decide +kernel)
theorem im_X5_row : ((Jvm.Cond.instanceMethod ({ cls := "ShareStatisticsModel", name := "row", desc := "(IIIIII)I" } : Jvm.MethodName))) ∈ allW := aw 699 (by decide +kernel) (by decide +kernel)
theorem se_X5_row : ((Jvm.Cond.selects "ShareStatisticsModel" ({ cls := "ShareStatisticsModel", name := "row", desc := "(IIIIII)I" } : Jvm.MethodName) ({ cls := "ShareStatisticsModel", name := "row", desc := "(IIIIII)I" } : Jvm.MethodName))) ∈ allW := aw 700 (by decide +kernel) (by decide +kernel)
theorem ml_X5_X5_in : ((Jvm.Cond.methodLink "ShareStatisticsModel" (79 : Nat) ({ cls := "ShareStatisticsModel", name := "in", desc := "(III)Z" } : Jvm.MethodName))) ∈ allW := aw 702 (by decide +kernel) (by decide +kernel)
theorem sm_X5_in : ((Jvm.Cond.static ({ cls := "ShareStatisticsModel", name := "in", desc := "(III)Z" } : Jvm.MethodName))) ∈ allW := aw 703 (by decide +kernel) (by decide +kernel)
theorem ml_X5_X5_isDay : ((Jvm.Cond.methodLink "ShareStatisticsModel" (83 : Nat) ({ cls := "ShareStatisticsModel", name := "isDay", desc := "(I)Z" } : Jvm.MethodName))) ∈ allW := aw 705 (by decide +kernel) (by decide +kernel)
theorem sm_X5_isDay : ((Jvm.Cond.static ({ cls := "ShareStatisticsModel", name := "isDay", desc := "(I)Z" } : Jvm.MethodName))) ∈ allW := aw 706 (by decide +kernel) (by decide +kernel)
theorem ml_X5_X5_throwing : ((Jvm.Cond.methodLink "ShareStatisticsModel" (90 : Nat) ({ cls := "ShareStatisticsModel", name := "throwing", desc := "(ZZZ)Z" } : Jvm.MethodName))) ∈ allW := aw 708 (by decide +kernel) (by decide +kernel)
theorem im_X5_throwing : ((Jvm.Cond.instanceMethod ({ cls := "ShareStatisticsModel", name := "throwing", desc := "(ZZZ)Z" } : Jvm.MethodName))) ∈ allW := aw 710 (by decide +kernel) (by decide +kernel)
theorem ml_X5_X5_thrownBy : ((Jvm.Cond.methodLink "ShareStatisticsModel" (75 : Nat) ({ cls := "ShareStatisticsModel", name := "thrownBy", desc := "(ZZZ)I" } : Jvm.MethodName))) ∈ allW := aw 712 (by decide +kernel) (by decide +kernel)
theorem im_X5_thrownBy : ((Jvm.Cond.instanceMethod ({ cls := "ShareStatisticsModel", name := "thrownBy", desc := "(ZZZ)I" } : Jvm.MethodName))) ∈ allW := aw 714 (by decide +kernel) (by decide +kernel)
theorem ml_L_X5_values : ((Jvm.Cond.methodLink "ShareStatisticsLaw" (90 : Nat) ({ cls := "ShareStatisticsModel", name := "values", desc := "(III)V" } : Jvm.MethodName))) ∈ allW := aw 716 (by decide +kernel) (by decide +kernel)
theorem im_X5_values : ((Jvm.Cond.instanceMethod ({ cls := "ShareStatisticsModel", name := "values", desc := "(III)V" } : Jvm.MethodName))) ∈ allW := aw 717 (by decide +kernel) (by decide +kernel)
theorem se_X5_values : ((Jvm.Cond.selects "ShareStatisticsModel" ({ cls := "ShareStatisticsModel", name := "values", desc := "(III)V" } : Jvm.MethodName) ({ cls := "ShareStatisticsModel", name := "values", desc := "(III)V" } : Jvm.MethodName))) ∈ allW := aw 718 (by decide +kernel) (by decide +kernel)
theorem ml_L_X5_define : ((Jvm.Cond.methodLink "ShareStatisticsLaw" (94 : Nat) ({ cls := "ShareStatisticsModel", name := "define", desc := "(II)I" } : Jvm.MethodName))) ∈ allW := aw 720 (by decide +kernel) (by decide +kernel)
theorem im_X5_define : ((Jvm.Cond.instanceMethod ({ cls := "ShareStatisticsModel", name := "define", desc := "(II)I" } : Jvm.MethodName))) ∈ allW := aw 721 (by decide +kernel) (by decide +kernel)
theorem se_X5_define : ((Jvm.Cond.selects "ShareStatisticsModel" ({ cls := "ShareStatisticsModel", name := "define", desc := "(II)I" } : Jvm.MethodName) ({ cls := "ShareStatisticsModel", name := "define", desc := "(II)I" } : Jvm.MethodName))) ∈ allW := aw 722 (by decide +kernel) (by decide +kernel)
theorem ml_L_X5_ask : ((Jvm.Cond.methodLink "ShareStatisticsLaw" (98 : Nat) ({ cls := "ShareStatisticsModel", name := "ask", desc := "(IIII)V" } : Jvm.MethodName))) ∈ allW := aw 724 (by decide +kernel) (by decide +kernel)
theorem im_X5_ask : ((Jvm.Cond.instanceMethod ({ cls := "ShareStatisticsModel", name := "ask", desc := "(IIII)V" } : Jvm.MethodName))) ∈ allW := aw 725 (by decide +kernel) (by decide +kernel)
theorem se_X5_ask : ((Jvm.Cond.selects "ShareStatisticsModel" ({ cls := "ShareStatisticsModel", name := "ask", desc := "(IIII)V" } : Jvm.MethodName) ({ cls := "ShareStatisticsModel", name := "ask", desc := "(IIII)V" } : Jvm.MethodName))) ∈ allW := aw 726 (by decide +kernel) (by decide +kernel)
theorem ml_L_X5_count : ((Jvm.Cond.methodLink "ShareStatisticsLaw" (102 : Nat) ({ cls := "ShareStatisticsModel", name := "count", desc := "(I)I" } : Jvm.MethodName))) ∈ allW := aw 728 (by decide +kernel) (by decide +kernel)
theorem im_X5_count : ((Jvm.Cond.instanceMethod ({ cls := "ShareStatisticsModel", name := "count", desc := "(I)I" } : Jvm.MethodName))) ∈ allW := aw 729 (by decide +kernel) (by decide +kernel)
theorem se_X5_count : ((Jvm.Cond.selects "ShareStatisticsModel" ({ cls := "ShareStatisticsModel", name := "count", desc := "(I)I" } : Jvm.MethodName) ({ cls := "ShareStatisticsModel", name := "count", desc := "(I)I" } : Jvm.MethodName))) ∈ allW := aw 730 (by decide +kernel) (by decide +kernel)
theorem ml_X5_X5_isAsked : ((Jvm.Cond.methodLink "ShareStatisticsModel" (117 : Nat) ({ cls := "ShareStatisticsModel", name := "isAsked", desc := "(I)Z" } : Jvm.MethodName))) ∈ allW := aw 732 (by decide +kernel) (by decide +kernel)
theorem im_X5_isAsked : ((Jvm.Cond.instanceMethod ({ cls := "ShareStatisticsModel", name := "isAsked", desc := "(I)Z" } : Jvm.MethodName))) ∈ allW := aw 734 (by decide +kernel) (by decide +kernel)
theorem ml_X5_X5_fits : ((Jvm.Cond.methodLink "ShareStatisticsModel" (100 : Nat) ({ cls := "ShareStatisticsModel", name := "fits", desc := "(IIIII)Z" } : Jvm.MethodName))) ∈ allW := aw 736 (by decide +kernel) (by decide +kernel)
theorem im_X5_fits : ((Jvm.Cond.instanceMethod ({ cls := "ShareStatisticsModel", name := "fits", desc := "(IIIII)Z" } : Jvm.MethodName))) ∈ allW := aw 738 (by decide +kernel) (by decide +kernel)
theorem ml_X5_X5_isWithin : ((Jvm.Cond.methodLink "ShareStatisticsModel" (114 : Nat) ({ cls := "ShareStatisticsModel", name := "isWithin", desc := "(I)Z" } : Jvm.MethodName))) ∈ allW := aw 740 (by decide +kernel) (by decide +kernel)
theorem im_X5_isWithin : ((Jvm.Cond.instanceMethod ({ cls := "ShareStatisticsModel", name := "isWithin", desc := "(I)Z" } : Jvm.MethodName))) ∈ allW := aw 742 (by decide +kernel) (by decide +kernel)
theorem ml_X5_X5_isWithout : ((Jvm.Cond.methodLink "ShareStatisticsModel" (111 : Nat) ({ cls := "ShareStatisticsModel", name := "isWithout", desc := "(I)Z" } : Jvm.MethodName))) ∈ allW := aw 744 (by decide +kernel) (by decide +kernel)
theorem im_X5_isWithout : ((Jvm.Cond.instanceMethod ({ cls := "ShareStatisticsModel", name := "isWithout", desc := "(I)Z" } : Jvm.MethodName))) ∈ allW := aw 746 (by decide +kernel) (by decide +kernel)
theorem ml_X5_X5_hasBoth : ((Jvm.Cond.methodLink "ShareStatisticsModel" (104 : Nat) ({ cls := "ShareStatisticsModel", name := "hasBoth", desc := "(I)Z" } : Jvm.MethodName))) ∈ allW := aw 748 (by decide +kernel) (by decide +kernel)
theorem im_X5_hasBoth : ((Jvm.Cond.instanceMethod ({ cls := "ShareStatisticsModel", name := "hasBoth", desc := "(I)Z" } : Jvm.MethodName))) ∈ allW := aw 750 (by decide +kernel) (by decide +kernel)
theorem ml_X5_X5_markOf : ((Jvm.Cond.methodLink "ShareStatisticsModel" (107 : Nat) ({ cls := "ShareStatisticsModel", name := "markOf", desc := "(I)I" } : Jvm.MethodName))) ∈ allW := aw 752 (by decide +kernel) (by decide +kernel)
theorem im_X5_markOf : ((Jvm.Cond.instanceMethod ({ cls := "ShareStatisticsModel", name := "markOf", desc := "(I)I" } : Jvm.MethodName))) ∈ allW := aw 754 (by decide +kernel) (by decide +kernel)
theorem ml_L_X5_hour : ((Jvm.Cond.methodLink "ShareStatisticsLaw" (105 : Nat) ({ cls := "ShareStatisticsModel", name := "hour", desc := "(I)I" } : Jvm.MethodName))) ∈ allW := aw 756 (by decide +kernel) (by decide +kernel)
theorem im_X5_hour : ((Jvm.Cond.instanceMethod ({ cls := "ShareStatisticsModel", name := "hour", desc := "(I)I" } : Jvm.MethodName))) ∈ allW := aw 757 (by decide +kernel) (by decide +kernel)
theorem se_X5_hour : ((Jvm.Cond.selects "ShareStatisticsModel" ({ cls := "ShareStatisticsModel", name := "hour", desc := "(I)I" } : Jvm.MethodName) ({ cls := "ShareStatisticsModel", name := "hour", desc := "(I)I" } : Jvm.MethodName))) ∈ allW := aw 758 (by decide +kernel) (by decide +kernel)
theorem ml_L_X5_share : ((Jvm.Cond.methodLink "ShareStatisticsLaw" (108 : Nat) ({ cls := "ShareStatisticsModel", name := "share", desc := "(I)I" } : Jvm.MethodName))) ∈ allW := aw 760 (by decide +kernel) (by decide +kernel)
theorem im_X5_share : ((Jvm.Cond.instanceMethod ({ cls := "ShareStatisticsModel", name := "share", desc := "(I)I" } : Jvm.MethodName))) ∈ allW := aw 761 (by decide +kernel) (by decide +kernel)
theorem se_X5_share : ((Jvm.Cond.selects "ShareStatisticsModel" ({ cls := "ShareStatisticsModel", name := "share", desc := "(I)I" } : Jvm.MethodName) ({ cls := "ShareStatisticsModel", name := "share", desc := "(I)I" } : Jvm.MethodName))) ∈ allW := aw 762 (by decide +kernel) (by decide +kernel)
theorem ml_X5_X5_sharesOf : ((Jvm.Cond.methodLink "ShareStatisticsModel" (120 : Nat) ({ cls := "ShareStatisticsModel", name := "sharesOf", desc := "(III)I" } : Jvm.MethodName))) ∈ allW := aw 764 (by decide +kernel) (by decide +kernel)
theorem im_X5_sharesOf : ((Jvm.Cond.instanceMethod ({ cls := "ShareStatisticsModel", name := "sharesOf", desc := "(III)I" } : Jvm.MethodName))) ∈ allW := aw 766 (by decide +kernel) (by decide +kernel)
theorem ml_X5_X5_common : ((Jvm.Cond.methodLink "ShareStatisticsModel" (124 : Nat) ({ cls := "ShareStatisticsModel", name := "common", desc := "(II)I" } : Jvm.MethodName))) ∈ allW := aw 768 (by decide +kernel) (by decide +kernel)
theorem sm_X5_common : ((Jvm.Cond.static ({ cls := "ShareStatisticsModel", name := "common", desc := "(II)I" } : Jvm.MethodName))) ∈ allW := aw 769 (by decide +kernel) (by decide +kernel)
theorem ml_L_X5_placed : ((Jvm.Cond.methodLink "ShareStatisticsLaw" (111 : Nat) ({ cls := "ShareStatisticsModel", name := "placed", desc := "(I)I" } : Jvm.MethodName))) ∈ allW := aw 771 (by decide +kernel) (by decide +kernel)
theorem im_X5_placed : ((Jvm.Cond.instanceMethod ({ cls := "ShareStatisticsModel", name := "placed", desc := "(I)I" } : Jvm.MethodName))) ∈ allW := aw 772 (by decide +kernel) (by decide +kernel)
theorem se_X5_placed : ((Jvm.Cond.selects "ShareStatisticsModel" ({ cls := "ShareStatisticsModel", name := "placed", desc := "(I)I" } : Jvm.MethodName) ({ cls := "ShareStatisticsModel", name := "placed", desc := "(I)I" } : Jvm.MethodName))) ∈ allW := aw 773 (by decide +kernel) (by decide +kernel)
theorem ml_X5_X5_sumOf : ((Jvm.Cond.methodLink "ShareStatisticsModel" (128 : Nat) ({ cls := "ShareStatisticsModel", name := "sumOf", desc := "(I)I" } : Jvm.MethodName))) ∈ allW := aw 775 (by decide +kernel) (by decide +kernel)
theorem im_X5_sumOf : ((Jvm.Cond.instanceMethod ({ cls := "ShareStatisticsModel", name := "sumOf", desc := "(I)I" } : Jvm.MethodName))) ∈ allW := aw 777 (by decide +kernel) (by decide +kernel)
theorem ml_L_X5_splits : ((Jvm.Cond.methodLink "ShareStatisticsLaw" (115 : Nat) ({ cls := "ShareStatisticsModel", name := "splits", desc := "()I" } : Jvm.MethodName))) ∈ allW := aw 779 (by decide +kernel) (by decide +kernel)
theorem im_X5_splits : ((Jvm.Cond.instanceMethod ({ cls := "ShareStatisticsModel", name := "splits", desc := "()I" } : Jvm.MethodName))) ∈ allW := aw 780 (by decide +kernel) (by decide +kernel)
theorem se_X5_splits : ((Jvm.Cond.selects "ShareStatisticsModel" ({ cls := "ShareStatisticsModel", name := "splits", desc := "()I" } : Jvm.MethodName) ({ cls := "ShareStatisticsModel", name := "splits", desc := "()I" } : Jvm.MethodName))) ∈ allW := aw 781 (by decide +kernel) (by decide +kernel)
theorem ml_L_X5_compare : ((Jvm.Cond.methodLink "ShareStatisticsLaw" (118 : Nat) ({ cls := "ShareStatisticsModel", name := "compare", desc := "(II)I" } : Jvm.MethodName))) ∈ allW := aw 783 (by decide +kernel) (by decide +kernel)
theorem im_X5_compare : ((Jvm.Cond.instanceMethod ({ cls := "ShareStatisticsModel", name := "compare", desc := "(II)I" } : Jvm.MethodName))) ∈ allW := aw 784 (by decide +kernel) (by decide +kernel)
theorem se_X5_compare : ((Jvm.Cond.selects "ShareStatisticsModel" ({ cls := "ShareStatisticsModel", name := "compare", desc := "(II)I" } : Jvm.MethodName) ({ cls := "ShareStatisticsModel", name := "compare", desc := "(II)I" } : Jvm.MethodName))) ∈ allW := aw 785 (by decide +kernel) (by decide +kernel)
theorem ml_L_X5_trend : ((Jvm.Cond.methodLink "ShareStatisticsLaw" (122 : Nat) ({ cls := "ShareStatisticsModel", name := "trend", desc := "(IIII)I" } : Jvm.MethodName))) ∈ allW := aw 787 (by decide +kernel) (by decide +kernel)
theorem im_X5_trend : ((Jvm.Cond.instanceMethod ({ cls := "ShareStatisticsModel", name := "trend", desc := "(IIII)I" } : Jvm.MethodName))) ∈ allW := aw 788 (by decide +kernel) (by decide +kernel)
theorem se_X5_trend : ((Jvm.Cond.selects "ShareStatisticsModel" ({ cls := "ShareStatisticsModel", name := "trend", desc := "(IIII)I" } : Jvm.MethodName) ({ cls := "ShareStatisticsModel", name := "trend", desc := "(IIII)I" } : Jvm.MethodName))) ∈ allW := aw 789 (by decide +kernel) (by decide +kernel)
theorem ml_X5_X5_gain : ((Jvm.Cond.methodLink "ShareStatisticsModel" (131 : Nat) ({ cls := "ShareStatisticsModel", name := "gain", desc := "(II)I" } : Jvm.MethodName))) ∈ allW := aw 791 (by decide +kernel) (by decide +kernel)
theorem im_X5_gain : ((Jvm.Cond.instanceMethod ({ cls := "ShareStatisticsModel", name := "gain", desc := "(II)I" } : Jvm.MethodName))) ∈ allW := aw 793 (by decide +kernel) (by decide +kernel)
theorem ml_X5_X5_ordersFrom : ((Jvm.Cond.methodLink "ShareStatisticsModel" (134 : Nat) ({ cls := "ShareStatisticsModel", name := "ordersFrom", desc := "(II)I" } : Jvm.MethodName))) ∈ allW := aw 795 (by decide +kernel) (by decide +kernel)
theorem im_X5_ordersFrom : ((Jvm.Cond.instanceMethod ({ cls := "ShareStatisticsModel", name := "ordersFrom", desc := "(II)I" } : Jvm.MethodName))) ∈ allW := aw 797 (by decide +kernel) (by decide +kernel)
theorem ml_L_X5_people : ((Jvm.Cond.methodLink "ShareStatisticsLaw" (126 : Nat) ({ cls := "ShareStatisticsModel", name := "people", desc := "(II)V" } : Jvm.MethodName))) ∈ allW := aw 799 (by decide +kernel) (by decide +kernel)
theorem im_X5_people : ((Jvm.Cond.instanceMethod ({ cls := "ShareStatisticsModel", name := "people", desc := "(II)V" } : Jvm.MethodName))) ∈ allW := aw 800 (by decide +kernel) (by decide +kernel)
theorem se_X5_people : ((Jvm.Cond.selects "ShareStatisticsModel" ({ cls := "ShareStatisticsModel", name := "people", desc := "(II)V" } : Jvm.MethodName) ({ cls := "ShareStatisticsModel", name := "people", desc := "(II)V" } : Jvm.MethodName))) ∈ allW := aw 801 (by decide +kernel) (by decide +kernel)
theorem ct_X5_137 : ((Jvm.Cond.constant "ShareStatisticsModel" (137 : Nat) (1000000 : Int32))) ∈ allW := aw 803 (by decide +kernel) (by decide +kernel)
theorem ml_L_X5_perThousand : ((Jvm.Cond.methodLink "ShareStatisticsLaw" (129 : Nat) ({ cls := "ShareStatisticsModel", name := "perThousand", desc := "(I)I" } : Jvm.MethodName))) ∈ allW := aw 804 (by decide +kernel) (by decide +kernel)
theorem im_X5_perThousand : ((Jvm.Cond.instanceMethod ({ cls := "ShareStatisticsModel", name := "perThousand", desc := "(I)I" } : Jvm.MethodName))) ∈ allW := aw 805 (by decide +kernel) (by decide +kernel)
theorem se_X5_perThousand : ((Jvm.Cond.selects "ShareStatisticsModel" ({ cls := "ShareStatisticsModel", name := "perThousand", desc := "(I)I" } : Jvm.MethodName) ({ cls := "ShareStatisticsModel", name := "perThousand", desc := "(I)I" } : Jvm.MethodName))) ∈ allW := aw 806 (by decide +kernel) (by decide +kernel)
theorem ml_X5_X5_rowsOf : ((Jvm.Cond.methodLink "ShareStatisticsModel" (138 : Nat) ({ cls := "ShareStatisticsModel", name := "rowsOf", desc := "(II)I" } : Jvm.MethodName))) ∈ allW := aw 808 (by decide +kernel) (by decide +kernel)
theorem im_X5_rowsOf : ((Jvm.Cond.instanceMethod ({ cls := "ShareStatisticsModel", name := "rowsOf", desc := "(II)I" } : Jvm.MethodName))) ∈ allW := aw 810 (by decide +kernel) (by decide +kernel)
theorem ml_L_X5_rank : ((Jvm.Cond.methodLink "ShareStatisticsLaw" (132 : Nat) ({ cls := "ShareStatisticsModel", name := "rank", desc := "(I)I" } : Jvm.MethodName))) ∈ allW := aw 812 (by decide +kernel) (by decide +kernel)
theorem im_X5_rank : ((Jvm.Cond.instanceMethod ({ cls := "ShareStatisticsModel", name := "rank", desc := "(I)I" } : Jvm.MethodName))) ∈ allW := aw 813 (by decide +kernel) (by decide +kernel)
theorem se_X5_rank : ((Jvm.Cond.selects "ShareStatisticsModel" ({ cls := "ShareStatisticsModel", name := "rank", desc := "(I)I" } : Jvm.MethodName) ({ cls := "ShareStatisticsModel", name := "rank", desc := "(I)I" } : Jvm.MethodName))) ∈ allW := aw 814 (by decide +kernel) (by decide +kernel)
theorem ml_L_X5_least : ((Jvm.Cond.methodLink "ShareStatisticsLaw" (136 : Nat) ({ cls := "ShareStatisticsModel", name := "least", desc := "(I)V" } : Jvm.MethodName))) ∈ allW := aw 816 (by decide +kernel) (by decide +kernel)
theorem im_X5_least : ((Jvm.Cond.instanceMethod ({ cls := "ShareStatisticsModel", name := "least", desc := "(I)V" } : Jvm.MethodName))) ∈ allW := aw 817 (by decide +kernel) (by decide +kernel)
theorem se_X5_least : ((Jvm.Cond.selects "ShareStatisticsModel" ({ cls := "ShareStatisticsModel", name := "least", desc := "(I)V" } : Jvm.MethodName) ({ cls := "ShareStatisticsModel", name := "least", desc := "(I)V" } : Jvm.MethodName))) ∈ allW := aw 818 (by decide +kernel) (by decide +kernel)
theorem ml_L_X5_shown : ((Jvm.Cond.methodLink "ShareStatisticsLaw" (139 : Nat) ({ cls := "ShareStatisticsModel", name := "shown", desc := "(I)I" } : Jvm.MethodName))) ∈ allW := aw 820 (by decide +kernel) (by decide +kernel)
theorem im_X5_shown : ((Jvm.Cond.instanceMethod ({ cls := "ShareStatisticsModel", name := "shown", desc := "(I)I" } : Jvm.MethodName))) ∈ allW := aw 821 (by decide +kernel) (by decide +kernel)
theorem se_X5_shown : ((Jvm.Cond.selects "ShareStatisticsModel" ({ cls := "ShareStatisticsModel", name := "shown", desc := "(I)I" } : Jvm.MethodName) ({ cls := "ShareStatisticsModel", name := "shown", desc := "(I)I" } : Jvm.MethodName))) ∈ allW := aw 822 (by decide +kernel) (by decide +kernel)
theorem ml_X5_X5_join : ((Jvm.Cond.methodLink "ShareStatisticsModel" (141 : Nat) ({ cls := "ShareStatisticsModel", name := "join", desc := "()I" } : Jvm.MethodName))) ∈ allW := aw 824 (by decide +kernel) (by decide +kernel)
theorem im_X5_join : ((Jvm.Cond.instanceMethod ({ cls := "ShareStatisticsModel", name := "join", desc := "()I" } : Jvm.MethodName))) ∈ allW := aw 826 (by decide +kernel) (by decide +kernel)
theorem ml_L_X5_joined : ((Jvm.Cond.methodLink "ShareStatisticsLaw" (143 : Nat) ({ cls := "ShareStatisticsModel", name := "joined", desc := "()I" } : Jvm.MethodName))) ∈ allW := aw 828 (by decide +kernel) (by decide +kernel)
theorem im_X5_joined : ((Jvm.Cond.instanceMethod ({ cls := "ShareStatisticsModel", name := "joined", desc := "()I" } : Jvm.MethodName))) ∈ allW := aw 829 (by decide +kernel) (by decide +kernel)
theorem se_X5_joined : ((Jvm.Cond.selects "ShareStatisticsModel" ({ cls := "ShareStatisticsModel", name := "joined", desc := "()I" } : Jvm.MethodName) ({ cls := "ShareStatisticsModel", name := "joined", desc := "()I" } : Jvm.MethodName))) ∈ allW := aw 830 (by decide +kernel) (by decide +kernel)
theorem ml_L_X5_work : ((Jvm.Cond.methodLink "ShareStatisticsLaw" (146 : Nat) ({ cls := "ShareStatisticsModel", name := "work", desc := "(II)I" } : Jvm.MethodName))) ∈ allW := aw 832 (by decide +kernel) (by decide +kernel)
theorem im_X5_work : ((Jvm.Cond.instanceMethod ({ cls := "ShareStatisticsModel", name := "work", desc := "(II)I" } : Jvm.MethodName))) ∈ allW := aw 833 (by decide +kernel) (by decide +kernel)
theorem se_X5_work : ((Jvm.Cond.selects "ShareStatisticsModel" ({ cls := "ShareStatisticsModel", name := "work", desc := "(II)I" } : Jvm.MethodName) ({ cls := "ShareStatisticsModel", name := "work", desc := "(II)I" } : Jvm.MethodName))) ∈ allW := aw 834 (by decide +kernel) (by decide +kernel)
theorem ac_long : ((Jvm.Cond.arrayClass Jvm.ClassFile.FieldType.long)) ∈ allW := aw 836 (by decide +kernel) (by decide +kernel)
theorem se_X0_isLastOfItsDay : (Cond.selects RX0 yX0_isLastOfItsDay yX0_isLastOfItsDay) ∈ allW := aw 0 (by decide +kernel) (by decide +kernel)
theorem se_X1_isAsked : (Cond.selects RX1 yX1_isAsked yX1_isAsked) ∈ allW := aw 1 (by decide +kernel) (by decide +kernel)
theorem se_X1_isHidden : (Cond.selects RX1 yX1_isHidden yX1_isHidden) ∈ allW := aw 2 (by decide +kernel) (by decide +kernel)
theorem se_X1_isInSpan : (Cond.selects RX1 yX1_isInSpan yX1_isInSpan) ∈ allW := aw 3 (by decide +kernel) (by decide +kernel)
theorem se_X2_joinMore : (Cond.selects RX2 yX2_joinMore yX2_joinMore) ∈ allW := aw 4 (by decide +kernel) (by decide +kernel)
theorem se_X2_areaOfFewest : (Cond.selects RX2 yX2_areaOfFewest yX2_areaOfFewest) ∈ allW := aw 5 (by decide +kernel) (by decide +kernel)
theorem se_X4_askedTotal : (Cond.selects RX4 yX4_askedTotal yX4_askedTotal) ∈ allW := aw 7 (by decide +kernel) (by decide +kernel)
theorem se_X1_amount : (Cond.selects RX1 yX1_amount yX1_amount) ∈ allW := aw 8 (by decide +kernel) (by decide +kernel)
theorem se_X1_isWithin : (Cond.selects RX1 yX1_isWithin yX1_isWithin) ∈ allW := aw 9 (by decide +kernel) (by decide +kernel)
theorem se_X1_isWithout : (Cond.selects RX1 yX1_isWithout yX1_isWithout) ∈ allW := aw 10 (by decide +kernel) (by decide +kernel)
theorem se_X1_hasBothValues : (Cond.selects RX1 yX1_hasBothValues yX1_hasBothValues) ∈ allW := aw 11 (by decide +kernel) (by decide +kernel)
theorem se_X4_rowsWithin : (Cond.selects RX4 yX4_rowsWithin yX4_rowsWithin) ∈ allW := aw 12 (by decide +kernel) (by decide +kernel)
theorem se_X4_rowsNotWithout : (Cond.selects RX4 yX4_rowsNotWithout yX4_rowsNotWithout) ∈ allW := aw 13 (by decide +kernel) (by decide +kernel)
theorem se_X1_sortIn : (Cond.selects RX1 yX1_sortIn yX1_sortIn) ∈ allW := aw 14 (by decide +kernel) (by decide +kernel)
theorem se_X4_rowsOfArea : (Cond.selects RX4 yX4_rowsOfArea yX4_rowsOfArea) ∈ allW := aw 15 (by decide +kernel) (by decide +kernel)
theorem se_X1_isWork : (Cond.selects RX1 yX1_isWork yX1_isWork) ∈ allW := aw 16 (by decide +kernel) (by decide +kernel)
theorem se_X5_throwing : (Cond.selects RX5 yX5_throwing yX5_throwing) ∈ allW := aw 17 (by decide +kernel) (by decide +kernel)
theorem se_X5_thrownBy : (Cond.selects RX5 yX5_thrownBy yX5_thrownBy) ∈ allW := aw 18 (by decide +kernel) (by decide +kernel)
theorem se_X5_isAsked : (Cond.selects RX5 yX5_isAsked yX5_isAsked) ∈ allW := aw 19 (by decide +kernel) (by decide +kernel)
theorem se_X5_fits : (Cond.selects RX5 yX5_fits yX5_fits) ∈ allW := aw 20 (by decide +kernel) (by decide +kernel)
theorem se_X5_isWithin : (Cond.selects RX5 yX5_isWithin yX5_isWithin) ∈ allW := aw 21 (by decide +kernel) (by decide +kernel)
theorem se_X5_isWithout : (Cond.selects RX5 yX5_isWithout yX5_isWithout) ∈ allW := aw 22 (by decide +kernel) (by decide +kernel)
theorem se_X5_hasBoth : (Cond.selects RX5 yX5_hasBoth yX5_hasBoth) ∈ allW := aw 23 (by decide +kernel) (by decide +kernel)
theorem se_X5_markOf : (Cond.selects RX5 yX5_markOf yX5_markOf) ∈ allW := aw 24 (by decide +kernel) (by decide +kernel)
theorem se_X5_sharesOf : (Cond.selects RX5 yX5_sharesOf yX5_sharesOf) ∈ allW := aw 25 (by decide +kernel) (by decide +kernel)
theorem se_X5_sumOf : (Cond.selects RX5 yX5_sumOf yX5_sumOf) ∈ allW := aw 26 (by decide +kernel) (by decide +kernel)
theorem se_X5_gain : (Cond.selects RX5 yX5_gain yX5_gain) ∈ allW := aw 27 (by decide +kernel) (by decide +kernel)
theorem se_X5_ordersFrom : (Cond.selects RX5 yX5_ordersFrom yX5_ordersFrom) ∈ allW := aw 28 (by decide +kernel) (by decide +kernel)
theorem se_X5_rowsOf : (Cond.selects RX5 yX5_rowsOf yX5_rowsOf) ∈ allW := aw 29 (by decide +kernel) (by decide +kernel)
theorem se_X5_join : (Cond.selects RX5 yX5_join yX5_join) ∈ allW := aw 30 (by decide +kernel) (by decide +kernel)
end
section
theorem dX0_init_0 : decode cX0_init 0 = .ok (.aload_n 0, 1) := by decide +kernel
theorem dX0_init_1 : decode cX0_init 1 = .ok (.invokespecial 3, 3) := by decide +kernel
theorem dX0_init_4 : decode cX0_init 4 = .ok (.aload_n 0, 1) := by decide +kernel
theorem dX0_init_5 : decode cX0_init 5 = .ok (.bipush 6, 2) := by decide +kernel
theorem dX0_init_7 : decode cX0_init 7 = .ok (.newarray .int, 2) := by decide +kernel
theorem dX0_init_9 : decode cX0_init 9 = .ok (.putfield 9, 3) := by decide +kernel
theorem dX0_init_12 : decode cX0_init 12 = .ok (.aload_n 0, 1) := by decide +kernel
theorem dX0_init_13 : decode cX0_init 13 = .ok (.bipush 6, 2) := by decide +kernel
theorem dX0_init_15 : decode cX0_init 15 = .ok (.newarray .int, 2) := by decide +kernel
theorem dX0_init_17 : decode cX0_init 17 = .ok (.putfield 15, 3) := by decide +kernel
theorem dX0_init_20 : decode cX0_init 20 = .ok (.return_, 1) := by decide +kernel
theorem dX0_isFull_0 : decode cX0_isFull 0 = .ok (.aload_n 0, 1) := by decide +kernel
theorem dX0_isFull_1 : decode cX0_isFull 1 = .ok (.getfield 18, 3) := by decide +kernel
theorem dX0_isFull_4 : decode cX0_isFull 4 = .ok (.bipush 6, 2) := by decide +kernel
theorem dX0_isFull_6 : decode cX0_isFull 6 = .ok (.if_icmp .lt 7, 3) := by decide +kernel
theorem dX0_isFull_9 : decode cX0_isFull 9 = .ok (.iconst 1, 1) := by decide +kernel
theorem dX0_isFull_10 : decode cX0_isFull 10 = .ok (.goto 4, 3) := by decide +kernel
theorem dX0_isFull_13 : decode cX0_isFull 13 = .ok (.iconst 0, 1) := by decide +kernel
theorem dX0_isFull_14 : decode cX0_isFull 14 = .ok (.ireturn, 1) := by decide +kernel
theorem dX0_add_0 : decode cX0_add 0 = .ok (.aload_n 0, 1) := by decide +kernel
theorem dX0_add_1 : decode cX0_add 1 = .ok (.invokevirtual 22, 3) := by decide +kernel
theorem dX0_add_4 : decode cX0_add 4 = .ok (.ifCond .ne 33, 3) := by decide +kernel
theorem dX0_add_7 : decode cX0_add 7 = .ok (.aload_n 0, 1) := by decide +kernel
theorem dX0_add_8 : decode cX0_add 8 = .ok (.getfield 9, 3) := by decide +kernel
theorem dX0_add_11 : decode cX0_add 11 = .ok (.aload_n 0, 1) := by decide +kernel
theorem dX0_add_12 : decode cX0_add 12 = .ok (.getfield 18, 3) := by decide +kernel
theorem dX0_add_15 : decode cX0_add 15 = .ok (.iload_n 1, 1) := by decide +kernel
theorem dX0_add_16 : decode cX0_add 16 = .ok (.iastore, 1) := by decide +kernel
theorem dX0_add_17 : decode cX0_add 17 = .ok (.aload_n 0, 1) := by decide +kernel
theorem dX0_add_18 : decode cX0_add 18 = .ok (.getfield 15, 3) := by decide +kernel
theorem dX0_add_21 : decode cX0_add 21 = .ok (.aload_n 0, 1) := by decide +kernel
theorem dX0_add_22 : decode cX0_add 22 = .ok (.getfield 18, 3) := by decide +kernel
theorem dX0_add_25 : decode cX0_add 25 = .ok (.iload_n 2, 1) := by decide +kernel
theorem dX0_add_26 : decode cX0_add 26 = .ok (.iastore, 1) := by decide +kernel
theorem dX0_add_27 : decode cX0_add 27 = .ok (.aload_n 0, 1) := by decide +kernel
theorem dX0_add_28 : decode cX0_add 28 = .ok (.dup, 1) := by decide +kernel
theorem dX0_add_29 : decode cX0_add 29 = .ok (.getfield 18, 3) := by decide +kernel
theorem dX0_add_32 : decode cX0_add 32 = .ok (.iconst 1, 1) := by decide +kernel
theorem dX0_add_33 : decode cX0_add 33 = .ok (.iadd, 1) := by decide +kernel
theorem dX0_add_34 : decode cX0_add 34 = .ok (.putfield 18, 3) := by decide +kernel
theorem dX0_add_37 : decode cX0_add 37 = .ok (.aload_n 0, 1) := by decide +kernel
theorem dX0_add_38 : decode cX0_add 38 = .ok (.getfield 18, 3) := by decide +kernel
theorem dX0_add_41 : decode cX0_add 41 = .ok (.ireturn, 1) := by decide +kernel
theorem dX0_markOn_0 : decode cX0_markOn 0 = .ok (.iconst (-1), 1) := by decide +kernel
theorem dX0_markOn_1 : decode cX0_markOn 1 = .ok (.istore_n 2, 1) := by decide +kernel
theorem dX0_markOn_2 : decode cX0_markOn 2 = .ok (.iconst 0, 1) := by decide +kernel
theorem dX0_markOn_3 : decode cX0_markOn 3 = .ok (.istore_n 3, 1) := by decide +kernel
theorem dX0_markOn_4 : decode cX0_markOn 4 = .ok (.iconst 0, 1) := by decide +kernel
theorem dX0_markOn_5 : decode cX0_markOn 5 = .ok (.istore 4, 2) := by decide +kernel
theorem dX0_markOn_7 : decode cX0_markOn 7 = .ok (.iload 4, 2) := by decide +kernel
theorem dX0_markOn_9 : decode cX0_markOn 9 = .ok (.aload_n 0, 1) := by decide +kernel
theorem dX0_markOn_10 : decode cX0_markOn 10 = .ok (.getfield 18, 3) := by decide +kernel
theorem dX0_markOn_13 : decode cX0_markOn 13 = .ok (.if_icmp .ge 47, 3) := by decide +kernel
theorem dX0_markOn_16 : decode cX0_markOn 16 = .ok (.aload_n 0, 1) := by decide +kernel
theorem dX0_markOn_17 : decode cX0_markOn 17 = .ok (.getfield 9, 3) := by decide +kernel
theorem dX0_markOn_20 : decode cX0_markOn 20 = .ok (.iload 4, 2) := by decide +kernel
theorem dX0_markOn_22 : decode cX0_markOn 22 = .ok (.iaload, 1) := by decide +kernel
theorem dX0_markOn_23 : decode cX0_markOn 23 = .ok (.iload_n 1, 1) := by decide +kernel
theorem dX0_markOn_24 : decode cX0_markOn 24 = .ok (.if_icmp .gt 30, 3) := by decide +kernel
theorem dX0_markOn_27 : decode cX0_markOn 27 = .ok (.aload_n 0, 1) := by decide +kernel
theorem dX0_markOn_28 : decode cX0_markOn 28 = .ok (.getfield 9, 3) := by decide +kernel
theorem dX0_markOn_31 : decode cX0_markOn 31 = .ok (.iload 4, 2) := by decide +kernel
theorem dX0_markOn_33 : decode cX0_markOn 33 = .ok (.iaload, 1) := by decide +kernel
theorem dX0_markOn_34 : decode cX0_markOn 34 = .ok (.iload_n 3, 1) := by decide +kernel
theorem dX0_markOn_35 : decode cX0_markOn 35 = .ok (.if_icmp .lt 19, 3) := by decide +kernel
theorem dX0_markOn_38 : decode cX0_markOn 38 = .ok (.aload_n 0, 1) := by decide +kernel
theorem dX0_markOn_39 : decode cX0_markOn 39 = .ok (.getfield 9, 3) := by decide +kernel
theorem dX0_markOn_42 : decode cX0_markOn 42 = .ok (.iload 4, 2) := by decide +kernel
theorem dX0_markOn_44 : decode cX0_markOn 44 = .ok (.iaload, 1) := by decide +kernel
theorem dX0_markOn_45 : decode cX0_markOn 45 = .ok (.istore_n 3, 1) := by decide +kernel
theorem dX0_markOn_46 : decode cX0_markOn 46 = .ok (.aload_n 0, 1) := by decide +kernel
theorem dX0_markOn_47 : decode cX0_markOn 47 = .ok (.getfield 15, 3) := by decide +kernel
theorem dX0_markOn_50 : decode cX0_markOn 50 = .ok (.iload 4, 2) := by decide +kernel
theorem dX0_markOn_52 : decode cX0_markOn 52 = .ok (.iaload, 1) := by decide +kernel
theorem dX0_markOn_53 : decode cX0_markOn 53 = .ok (.istore_n 2, 1) := by decide +kernel
theorem dX0_markOn_54 : decode cX0_markOn 54 = .ok (.iinc 4 1, 3) := by decide +kernel
theorem dX0_markOn_57 : decode cX0_markOn 57 = .ok (.goto (-50), 3) := by decide +kernel
theorem dX0_markOn_60 : decode cX0_markOn 60 = .ok (.iload_n 2, 1) := by decide +kernel
theorem dX0_markOn_61 : decode cX0_markOn 61 = .ok (.ireturn, 1) := by decide +kernel
theorem dX0_changes_0 : decode cX0_changes 0 = .ok (.iconst 0, 1) := by decide +kernel
theorem dX0_changes_1 : decode cX0_changes 1 = .ok (.istore_n 3, 1) := by decide +kernel
theorem dX0_changes_2 : decode cX0_changes 2 = .ok (.iconst 0, 1) := by decide +kernel
theorem dX0_changes_3 : decode cX0_changes 3 = .ok (.istore 4, 2) := by decide +kernel
theorem dX0_changes_5 : decode cX0_changes 5 = .ok (.iload 4, 2) := by decide +kernel
theorem dX0_changes_7 : decode cX0_changes 7 = .ok (.aload_n 0, 1) := by decide +kernel
theorem dX0_changes_8 : decode cX0_changes 8 = .ok (.getfield 18, 3) := by decide +kernel
theorem dX0_changes_11 : decode cX0_changes 11 = .ok (.if_icmp .ge 71, 3) := by decide +kernel
theorem dX0_changes_14 : decode cX0_changes 14 = .ok (.aload_n 0, 1) := by decide +kernel
theorem dX0_changes_15 : decode cX0_changes 15 = .ok (.getfield 9, 3) := by decide +kernel
theorem dX0_changes_18 : decode cX0_changes 18 = .ok (.iload 4, 2) := by decide +kernel
theorem dX0_changes_20 : decode cX0_changes 20 = .ok (.iaload, 1) := by decide +kernel
theorem dX0_changes_21 : decode cX0_changes 21 = .ok (.istore 5, 2) := by decide +kernel
theorem dX0_changes_23 : decode cX0_changes 23 = .ok (.iload 5, 2) := by decide +kernel
theorem dX0_changes_25 : decode cX0_changes 25 = .ok (.iload_n 1, 1) := by decide +kernel
theorem dX0_changes_26 : decode cX0_changes 26 = .ok (.if_icmp .le 13, 3) := by decide +kernel
theorem dX0_changes_29 : decode cX0_changes 29 = .ok (.iload 5, 2) := by decide +kernel
theorem dX0_changes_31 : decode cX0_changes 31 = .ok (.iload_n 2, 1) := by decide +kernel
theorem dX0_changes_32 : decode cX0_changes 32 = .ok (.if_icmp .gt 7, 3) := by decide +kernel
theorem dX0_changes_35 : decode cX0_changes 35 = .ok (.iconst 1, 1) := by decide +kernel
theorem dX0_changes_36 : decode cX0_changes 36 = .ok (.goto 4, 3) := by decide +kernel
theorem dX0_changes_39 : decode cX0_changes 39 = .ok (.iconst 0, 1) := by decide +kernel
theorem dX0_changes_40 : decode cX0_changes 40 = .ok (.istore 6, 2) := by decide +kernel
theorem dX0_changes_42 : decode cX0_changes 42 = .ok (.iload 6, 2) := by decide +kernel
theorem dX0_changes_44 : decode cX0_changes 44 = .ok (.ifCond .eq 32, 3) := by decide +kernel
theorem dX0_changes_47 : decode cX0_changes 47 = .ok (.aload_n 0, 1) := by decide +kernel
theorem dX0_changes_48 : decode cX0_changes 48 = .ok (.iload 4, 2) := by decide +kernel
theorem dX0_changes_50 : decode cX0_changes 50 = .ok (.invokevirtual 26, 3) := by decide +kernel
theorem dX0_changes_53 : decode cX0_changes 53 = .ok (.ifCond .eq 23, 3) := by decide +kernel
theorem dX0_changes_56 : decode cX0_changes 56 = .ok (.aload_n 0, 1) := by decide +kernel
theorem dX0_changes_57 : decode cX0_changes 57 = .ok (.iload 5, 2) := by decide +kernel
theorem dX0_changes_59 : decode cX0_changes 59 = .ok (.invokevirtual 30, 3) := by decide +kernel
theorem dX0_changes_62 : decode cX0_changes 62 = .ok (.aload_n 0, 1) := by decide +kernel
theorem dX0_changes_63 : decode cX0_changes 63 = .ok (.iload 5, 2) := by decide +kernel
theorem dX0_changes_65 : decode cX0_changes 65 = .ok (.iconst 1, 1) := by decide +kernel
theorem dX0_changes_66 : decode cX0_changes 66 = .ok (.isub, 1) := by decide +kernel
theorem dX0_changes_67 : decode cX0_changes 67 = .ok (.invokevirtual 30, 3) := by decide +kernel
theorem dX0_changes_70 : decode cX0_changes 70 = .ok (.if_icmp .eq 6, 3) := by decide +kernel
theorem dX0_changes_73 : decode cX0_changes 73 = .ok (.iinc 3 1, 3) := by decide +kernel
theorem dX0_changes_76 : decode cX0_changes 76 = .ok (.iinc 4 1, 3) := by decide +kernel
theorem dX0_changes_79 : decode cX0_changes 79 = .ok (.goto (-74), 3) := by decide +kernel
theorem dX0_changes_82 : decode cX0_changes 82 = .ok (.iload_n 3, 1) := by decide +kernel
theorem dX0_changes_83 : decode cX0_changes 83 = .ok (.ireturn, 1) := by decide +kernel
theorem dX0_isLastOfItsDay_0 : decode cX0_isLastOfItsDay 0 = .ok (.iload_n 1, 1) := by decide +kernel
theorem dX0_isLastOfItsDay_1 : decode cX0_isLastOfItsDay 1 = .ok (.iconst 1, 1) := by decide +kernel
theorem dX0_isLastOfItsDay_2 : decode cX0_isLastOfItsDay 2 = .ok (.iadd, 1) := by decide +kernel
theorem dX0_isLastOfItsDay_3 : decode cX0_isLastOfItsDay 3 = .ok (.istore_n 2, 1) := by decide +kernel
theorem dX0_isLastOfItsDay_4 : decode cX0_isLastOfItsDay 4 = .ok (.iload_n 2, 1) := by decide +kernel
theorem dX0_isLastOfItsDay_5 : decode cX0_isLastOfItsDay 5 = .ok (.aload_n 0, 1) := by decide +kernel
theorem dX0_isLastOfItsDay_6 : decode cX0_isLastOfItsDay 6 = .ok (.getfield 18, 3) := by decide +kernel
theorem dX0_isLastOfItsDay_9 : decode cX0_isLastOfItsDay 9 = .ok (.if_icmp .ge 26, 3) := by decide +kernel
theorem dX0_isLastOfItsDay_12 : decode cX0_isLastOfItsDay 12 = .ok (.aload_n 0, 1) := by decide +kernel
theorem dX0_isLastOfItsDay_13 : decode cX0_isLastOfItsDay 13 = .ok (.getfield 9, 3) := by decide +kernel
theorem dX0_isLastOfItsDay_16 : decode cX0_isLastOfItsDay 16 = .ok (.iload_n 2, 1) := by decide +kernel
theorem dX0_isLastOfItsDay_17 : decode cX0_isLastOfItsDay 17 = .ok (.iaload, 1) := by decide +kernel
theorem dX0_isLastOfItsDay_18 : decode cX0_isLastOfItsDay 18 = .ok (.aload_n 0, 1) := by decide +kernel
theorem dX0_isLastOfItsDay_19 : decode cX0_isLastOfItsDay 19 = .ok (.getfield 9, 3) := by decide +kernel
theorem dX0_isLastOfItsDay_22 : decode cX0_isLastOfItsDay 22 = .ok (.iload_n 1, 1) := by decide +kernel
theorem dX0_isLastOfItsDay_23 : decode cX0_isLastOfItsDay 23 = .ok (.iaload, 1) := by decide +kernel
theorem dX0_isLastOfItsDay_24 : decode cX0_isLastOfItsDay 24 = .ok (.if_icmp .ne 5, 3) := by decide +kernel
theorem dX0_isLastOfItsDay_27 : decode cX0_isLastOfItsDay 27 = .ok (.iconst 0, 1) := by decide +kernel
theorem dX0_isLastOfItsDay_28 : decode cX0_isLastOfItsDay 28 = .ok (.ireturn, 1) := by decide +kernel
theorem dX0_isLastOfItsDay_29 : decode cX0_isLastOfItsDay 29 = .ok (.iinc 2 1, 3) := by decide +kernel
theorem dX0_isLastOfItsDay_32 : decode cX0_isLastOfItsDay 32 = .ok (.goto (-28), 3) := by decide +kernel
theorem dX0_isLastOfItsDay_35 : decode cX0_isLastOfItsDay 35 = .ok (.iconst 1, 1) := by decide +kernel
theorem dX0_isLastOfItsDay_36 : decode cX0_isLastOfItsDay 36 = .ok (.ireturn, 1) := by decide +kernel
theorem dX1_init_0 : decode cX1_init 0 = .ok (.aload_n 0, 1) := by decide +kernel
theorem dX1_init_1 : decode cX1_init 1 = .ok (.invokespecial 3, 3) := by decide +kernel
theorem dX1_init_4 : decode cX1_init 4 = .ok (.aload_n 0, 1) := by decide +kernel
theorem dX1_init_5 : decode cX1_init 5 = .ok (.sipush 200, 3) := by decide +kernel
theorem dX1_init_8 : decode cX1_init 8 = .ok (.newarray .int, 2) := by decide +kernel
theorem dX1_init_10 : decode cX1_init 10 = .ok (.putfield 9, 3) := by decide +kernel
theorem dX1_init_13 : decode cX1_init 13 = .ok (.aload_n 0, 1) := by decide +kernel
theorem dX1_init_14 : decode cX1_init 14 = .ok (.sipush 200, 3) := by decide +kernel
theorem dX1_init_17 : decode cX1_init 17 = .ok (.newarray .int, 2) := by decide +kernel
theorem dX1_init_19 : decode cX1_init 19 = .ok (.putfield 15, 3) := by decide +kernel
theorem dX1_init_22 : decode cX1_init 22 = .ok (.aload_n 0, 1) := by decide +kernel
theorem dX1_init_23 : decode cX1_init 23 = .ok (.sipush 200, 3) := by decide +kernel
theorem dX1_init_26 : decode cX1_init 26 = .ok (.newarray .int, 2) := by decide +kernel
theorem dX1_init_28 : decode cX1_init 28 = .ok (.putfield 18, 3) := by decide +kernel
theorem dX1_init_31 : decode cX1_init 31 = .ok (.aload_n 0, 1) := by decide +kernel
theorem dX1_init_32 : decode cX1_init 32 = .ok (.sipush 200, 3) := by decide +kernel
theorem dX1_init_35 : decode cX1_init 35 = .ok (.newarray .int, 2) := by decide +kernel
theorem dX1_init_37 : decode cX1_init 37 = .ok (.putfield 21, 3) := by decide +kernel
theorem dX1_init_40 : decode cX1_init 40 = .ok (.aload_n 0, 1) := by decide +kernel
theorem dX1_init_41 : decode cX1_init 41 = .ok (.sipush 200, 3) := by decide +kernel
theorem dX1_init_44 : decode cX1_init 44 = .ok (.newarray .int, 2) := by decide +kernel
theorem dX1_init_46 : decode cX1_init 46 = .ok (.putfield 24, 3) := by decide +kernel
theorem dX1_init_49 : decode cX1_init 49 = .ok (.aload_n 0, 1) := by decide +kernel
theorem dX1_init_50 : decode cX1_init 50 = .ok (.sipush 200, 3) := by decide +kernel
theorem dX1_init_53 : decode cX1_init 53 = .ok (.newarray .int, 2) := by decide +kernel
theorem dX1_init_55 : decode cX1_init 55 = .ok (.putfield 27, 3) := by decide +kernel
theorem dX1_init_58 : decode cX1_init 58 = .ok (.aload_n 0, 1) := by decide +kernel
theorem dX1_init_59 : decode cX1_init 59 = .ok (.sipush 200, 3) := by decide +kernel
theorem dX1_init_62 : decode cX1_init 62 = .ok (.newarray .int, 2) := by decide +kernel
theorem dX1_init_64 : decode cX1_init 64 = .ok (.putfield 30, 3) := by decide +kernel
theorem dX1_init_67 : decode cX1_init 67 = .ok (.aload_n 0, 1) := by decide +kernel
theorem dX1_init_68 : decode cX1_init 68 = .ok (.sipush 200, 3) := by decide +kernel
theorem dX1_init_71 : decode cX1_init 71 = .ok (.newarray .int, 2) := by decide +kernel
theorem dX1_init_73 : decode cX1_init 73 = .ok (.putfield 33, 3) := by decide +kernel
theorem dX1_init_76 : decode cX1_init 76 = .ok (.aload_n 0, 1) := by decide +kernel
theorem dX1_init_77 : decode cX1_init 77 = .ok (.sipush 200, 3) := by decide +kernel
theorem dX1_init_80 : decode cX1_init 80 = .ok (.newarray .int, 2) := by decide +kernel
theorem dX1_init_82 : decode cX1_init 82 = .ok (.putfield 36, 3) := by decide +kernel
theorem dX1_init_85 : decode cX1_init 85 = .ok (.return_, 1) := by decide +kernel
theorem dX1_size_0 : decode cX1_size 0 = .ok (.aload_n 0, 1) := by decide +kernel
theorem dX1_size_1 : decode cX1_size 1 = .ok (.getfield 39, 3) := by decide +kernel
theorem dX1_size_4 : decode cX1_size 4 = .ok (.ireturn, 1) := by decide +kernel
theorem dX1_isFull_0 : decode cX1_isFull 0 = .ok (.aload_n 0, 1) := by decide +kernel
theorem dX1_isFull_1 : decode cX1_isFull 1 = .ok (.getfield 39, 3) := by decide +kernel
theorem dX1_isFull_4 : decode cX1_isFull 4 = .ok (.sipush 200, 3) := by decide +kernel
theorem dX1_isFull_7 : decode cX1_isFull 7 = .ok (.if_icmp .lt 7, 3) := by decide +kernel
theorem dX1_isFull_10 : decode cX1_isFull 10 = .ok (.iconst 1, 1) := by decide +kernel
theorem dX1_isFull_11 : decode cX1_isFull 11 = .ok (.goto 4, 3) := by decide +kernel
theorem dX1_isFull_14 : decode cX1_isFull 14 = .ok (.iconst 0, 1) := by decide +kernel
theorem dX1_isFull_15 : decode cX1_isFull 15 = .ok (.ireturn, 1) := by decide +kernel
theorem dX1_add_0 : decode cX1_add 0 = .ok (.aload_n 0, 1) := by decide +kernel
theorem dX1_add_1 : decode cX1_add 1 = .ok (.invokevirtual 43, 3) := by decide +kernel
theorem dX1_add_4 : decode cX1_add 4 = .ok (.ifCond .eq 8, 3) := by decide +kernel
theorem dX1_add_7 : decode cX1_add 7 = .ok (.aload_n 0, 1) := by decide +kernel
theorem dX1_add_8 : decode cX1_add 8 = .ok (.getfield 39, 3) := by decide +kernel
theorem dX1_add_11 : decode cX1_add 11 = .ok (.ireturn, 1) := by decide +kernel
theorem dX1_add_12 : decode cX1_add 12 = .ok (.aload_n 0, 1) := by decide +kernel
theorem dX1_add_13 : decode cX1_add 13 = .ok (.getfield 39, 3) := by decide +kernel
theorem dX1_add_16 : decode cX1_add 16 = .ok (.istore 7, 2) := by decide +kernel
theorem dX1_add_18 : decode cX1_add 18 = .ok (.aload_n 0, 1) := by decide +kernel
theorem dX1_add_19 : decode cX1_add 19 = .ok (.getfield 9, 3) := by decide +kernel
theorem dX1_add_22 : decode cX1_add 22 = .ok (.iload 7, 2) := by decide +kernel
theorem dX1_add_24 : decode cX1_add 24 = .ok (.iload_n 1, 1) := by decide +kernel
theorem dX1_add_25 : decode cX1_add 25 = .ok (.iastore, 1) := by decide +kernel
theorem dX1_add_26 : decode cX1_add 26 = .ok (.aload_n 0, 1) := by decide +kernel
theorem dX1_add_27 : decode cX1_add 27 = .ok (.getfield 15, 3) := by decide +kernel
theorem dX1_add_30 : decode cX1_add 30 = .ok (.iload 7, 2) := by decide +kernel
theorem dX1_add_32 : decode cX1_add 32 = .ok (.iload_n 2, 1) := by decide +kernel
theorem dX1_add_33 : decode cX1_add 33 = .ok (.iastore, 1) := by decide +kernel
theorem dX1_add_34 : decode cX1_add 34 = .ok (.aload_n 0, 1) := by decide +kernel
theorem dX1_add_35 : decode cX1_add 35 = .ok (.getfield 18, 3) := by decide +kernel
theorem dX1_add_38 : decode cX1_add 38 = .ok (.iload 7, 2) := by decide +kernel
theorem dX1_add_40 : decode cX1_add 40 = .ok (.iload_n 3, 1) := by decide +kernel
theorem dX1_add_41 : decode cX1_add 41 = .ok (.iastore, 1) := by decide +kernel
theorem dX1_add_42 : decode cX1_add 42 = .ok (.aload_n 0, 1) := by decide +kernel
theorem dX1_add_43 : decode cX1_add 43 = .ok (.getfield 21, 3) := by decide +kernel
theorem dX1_add_46 : decode cX1_add 46 = .ok (.iload 7, 2) := by decide +kernel
theorem dX1_add_48 : decode cX1_add 48 = .ok (.iload 4, 2) := by decide +kernel
theorem dX1_add_50 : decode cX1_add 50 = .ok (.iastore, 1) := by decide +kernel
theorem dX1_add_51 : decode cX1_add 51 = .ok (.aload_n 0, 1) := by decide +kernel
theorem dX1_add_52 : decode cX1_add 52 = .ok (.getfield 24, 3) := by decide +kernel
theorem dX1_add_55 : decode cX1_add 55 = .ok (.iload 7, 2) := by decide +kernel
theorem dX1_add_57 : decode cX1_add 57 = .ok (.iload 5, 2) := by decide +kernel
theorem dX1_add_59 : decode cX1_add 59 = .ok (.iastore, 1) := by decide +kernel
theorem dX1_add_60 : decode cX1_add 60 = .ok (.aload_n 0, 1) := by decide +kernel
theorem dX1_add_61 : decode cX1_add 61 = .ok (.getfield 27, 3) := by decide +kernel
theorem dX1_add_64 : decode cX1_add 64 = .ok (.iload 7, 2) := by decide +kernel
theorem dX1_add_66 : decode cX1_add 66 = .ok (.iload 6, 2) := by decide +kernel
theorem dX1_add_68 : decode cX1_add 68 = .ok (.iastore, 1) := by decide +kernel
theorem dX1_add_69 : decode cX1_add 69 = .ok (.aload_n 0, 1) := by decide +kernel
theorem dX1_add_70 : decode cX1_add 70 = .ok (.getfield 30, 3) := by decide +kernel
theorem dX1_add_73 : decode cX1_add 73 = .ok (.iload 7, 2) := by decide +kernel
theorem dX1_add_75 : decode cX1_add 75 = .ok (.iconst (-1), 1) := by decide +kernel
theorem dX1_add_76 : decode cX1_add 76 = .ok (.iastore, 1) := by decide +kernel
theorem dX1_add_77 : decode cX1_add 77 = .ok (.aload_n 0, 1) := by decide +kernel
theorem dX1_add_78 : decode cX1_add 78 = .ok (.getfield 33, 3) := by decide +kernel
theorem dX1_add_81 : decode cX1_add 81 = .ok (.iload 7, 2) := by decide +kernel
theorem dX1_add_83 : decode cX1_add 83 = .ok (.iconst (-1), 1) := by decide +kernel
theorem dX1_add_84 : decode cX1_add 84 = .ok (.iastore, 1) := by decide +kernel
theorem dX1_add_85 : decode cX1_add 85 = .ok (.aload_n 0, 1) := by decide +kernel
theorem dX1_add_86 : decode cX1_add 86 = .ok (.dup, 1) := by decide +kernel
theorem dX1_add_87 : decode cX1_add 87 = .ok (.getfield 39, 3) := by decide +kernel
theorem dX1_add_90 : decode cX1_add 90 = .ok (.iconst 1, 1) := by decide +kernel
theorem dX1_add_91 : decode cX1_add 91 = .ok (.iadd, 1) := by decide +kernel
theorem dX1_add_92 : decode cX1_add 92 = .ok (.putfield 39, 3) := by decide +kernel
theorem dX1_add_95 : decode cX1_add 95 = .ok (.iload 7, 2) := by decide +kernel
theorem dX1_add_97 : decode cX1_add 97 = .ok (.ireturn, 1) := by decide +kernel
theorem dX1_setSeconds_0 : decode cX1_setSeconds 0 = .ok (.iload_n 1, 1) := by decide +kernel
theorem dX1_setSeconds_1 : decode cX1_setSeconds 1 = .ok (.ifCond .lt 25, 3) := by decide +kernel
theorem dX1_setSeconds_4 : decode cX1_setSeconds 4 = .ok (.iload_n 1, 1) := by decide +kernel
theorem dX1_setSeconds_5 : decode cX1_setSeconds 5 = .ok (.aload_n 0, 1) := by decide +kernel
theorem dX1_setSeconds_6 : decode cX1_setSeconds 6 = .ok (.getfield 39, 3) := by decide +kernel
theorem dX1_setSeconds_9 : decode cX1_setSeconds 9 = .ok (.if_icmp .ge 17, 3) := by decide +kernel
theorem dX1_setSeconds_12 : decode cX1_setSeconds 12 = .ok (.aload_n 0, 1) := by decide +kernel
theorem dX1_setSeconds_13 : decode cX1_setSeconds 13 = .ok (.getfield 30, 3) := by decide +kernel
theorem dX1_setSeconds_16 : decode cX1_setSeconds 16 = .ok (.iload_n 1, 1) := by decide +kernel
theorem dX1_setSeconds_17 : decode cX1_setSeconds 17 = .ok (.iload_n 2, 1) := by decide +kernel
theorem dX1_setSeconds_18 : decode cX1_setSeconds 18 = .ok (.iastore, 1) := by decide +kernel
theorem dX1_setSeconds_19 : decode cX1_setSeconds 19 = .ok (.aload_n 0, 1) := by decide +kernel
theorem dX1_setSeconds_20 : decode cX1_setSeconds 20 = .ok (.getfield 33, 3) := by decide +kernel
theorem dX1_setSeconds_23 : decode cX1_setSeconds 23 = .ok (.iload_n 1, 1) := by decide +kernel
theorem dX1_setSeconds_24 : decode cX1_setSeconds 24 = .ok (.iload_n 3, 1) := by decide +kernel
theorem dX1_setSeconds_25 : decode cX1_setSeconds 25 = .ok (.iastore, 1) := by decide +kernel
theorem dX1_setSeconds_26 : decode cX1_setSeconds 26 = .ok (.return_, 1) := by decide +kernel
theorem dX1_number_0 : decode cX1_number 0 = .ok (.iconst 0, 1) := by decide +kernel
theorem dX1_number_1 : decode cX1_number 1 = .ok (.istore 5, 2) := by decide +kernel
theorem dX1_number_3 : decode cX1_number 3 = .ok (.iconst 0, 1) := by decide +kernel
theorem dX1_number_4 : decode cX1_number 4 = .ok (.istore 6, 2) := by decide +kernel
theorem dX1_number_6 : decode cX1_number 6 = .ok (.iload 6, 2) := by decide +kernel
theorem dX1_number_8 : decode cX1_number 8 = .ok (.aload_n 0, 1) := by decide +kernel
theorem dX1_number_9 : decode cX1_number 9 = .ok (.getfield 39, 3) := by decide +kernel
theorem dX1_number_12 : decode cX1_number 12 = .ok (.if_icmp .ge 26, 3) := by decide +kernel
theorem dX1_number_15 : decode cX1_number 15 = .ok (.aload_n 0, 1) := by decide +kernel
theorem dX1_number_16 : decode cX1_number 16 = .ok (.iload 6, 2) := by decide +kernel
theorem dX1_number_18 : decode cX1_number 18 = .ok (.iload_n 1, 1) := by decide +kernel
theorem dX1_number_19 : decode cX1_number 19 = .ok (.iload_n 2, 1) := by decide +kernel
theorem dX1_number_20 : decode cX1_number 20 = .ok (.iload_n 3, 1) := by decide +kernel
theorem dX1_number_21 : decode cX1_number 21 = .ok (.iload 4, 2) := by decide +kernel
theorem dX1_number_23 : decode cX1_number 23 = .ok (.invokevirtual 47, 3) := by decide +kernel
theorem dX1_number_26 : decode cX1_number 26 = .ok (.ifCond .eq 6, 3) := by decide +kernel
theorem dX1_number_29 : decode cX1_number 29 = .ok (.iinc 5 1, 3) := by decide +kernel
theorem dX1_number_32 : decode cX1_number 32 = .ok (.iinc 6 1, 3) := by decide +kernel
theorem dX1_number_35 : decode cX1_number 35 = .ok (.goto (-29), 3) := by decide +kernel
theorem dX1_number_38 : decode cX1_number 38 = .ok (.iload 5, 2) := by decide +kernel
theorem dX1_number_40 : decode cX1_number 40 = .ok (.ireturn, 1) := by decide +kernel
theorem dX1_total_0 : decode cX1_total 0 = .ok (.iconst 0, 1) := by decide +kernel
theorem dX1_total_1 : decode cX1_total 1 = .ok (.istore 7, 2) := by decide +kernel
theorem dX1_total_3 : decode cX1_total 3 = .ok (.iconst 0, 1) := by decide +kernel
theorem dX1_total_4 : decode cX1_total 4 = .ok (.istore 8, 2) := by decide +kernel
theorem dX1_total_6 : decode cX1_total 6 = .ok (.iload 8, 2) := by decide +kernel
theorem dX1_total_8 : decode cX1_total 8 = .ok (.aload_n 0, 1) := by decide +kernel
theorem dX1_total_9 : decode cX1_total 9 = .ok (.getfield 39, 3) := by decide +kernel
theorem dX1_total_12 : decode cX1_total 12 = .ok (.if_icmp .ge 48, 3) := by decide +kernel
theorem dX1_total_15 : decode cX1_total 15 = .ok (.aload_n 0, 1) := by decide +kernel
theorem dX1_total_16 : decode cX1_total 16 = .ok (.iload 8, 2) := by decide +kernel
theorem dX1_total_18 : decode cX1_total 18 = .ok (.iload_n 3, 1) := by decide +kernel
theorem dX1_total_19 : decode cX1_total 19 = .ok (.iload 4, 2) := by decide +kernel
theorem dX1_total_21 : decode cX1_total 21 = .ok (.iload 5, 2) := by decide +kernel
theorem dX1_total_23 : decode cX1_total 23 = .ok (.iload 6, 2) := by decide +kernel
theorem dX1_total_25 : decode cX1_total 25 = .ok (.invokevirtual 47, 3) := by decide +kernel
theorem dX1_total_28 : decode cX1_total 28 = .ok (.ifCond .eq 26, 3) := by decide +kernel
theorem dX1_total_31 : decode cX1_total 31 = .ok (.iload 7, 2) := by decide +kernel
theorem dX1_total_33 : decode cX1_total 33 = .ok (.aload_n 0, 1) := by decide +kernel
theorem dX1_total_34 : decode cX1_total 34 = .ok (.iload 8, 2) := by decide +kernel
theorem dX1_total_36 : decode cX1_total 36 = .ok (.iload_n 1, 1) := by decide +kernel
theorem dX1_total_37 : decode cX1_total 37 = .ok (.aload_n 2, 1) := by decide +kernel
theorem dX1_total_38 : decode cX1_total 38 = .ok (.aload_n 0, 1) := by decide +kernel
theorem dX1_total_39 : decode cX1_total 39 = .ok (.getfield 9, 3) := by decide +kernel
theorem dX1_total_42 : decode cX1_total 42 = .ok (.iload 8, 2) := by decide +kernel
theorem dX1_total_44 : decode cX1_total 44 = .ok (.iaload, 1) := by decide +kernel
theorem dX1_total_45 : decode cX1_total 45 = .ok (.invokevirtual 51, 3) := by decide +kernel
theorem dX1_total_48 : decode cX1_total 48 = .ok (.invokevirtual 57, 3) := by decide +kernel
theorem dX1_total_51 : decode cX1_total 51 = .ok (.iadd, 1) := by decide +kernel
theorem dX1_total_52 : decode cX1_total 52 = .ok (.istore 7, 2) := by decide +kernel
theorem dX1_total_54 : decode cX1_total 54 = .ok (.iinc 8 1, 3) := by decide +kernel
theorem dX1_total_57 : decode cX1_total 57 = .ok (.goto (-51), 3) := by decide +kernel
theorem dX1_total_60 : decode cX1_total 60 = .ok (.iload 7, 2) := by decide +kernel
theorem dX1_total_62 : decode cX1_total 62 = .ok (.ireturn, 1) := by decide +kernel
theorem dX1_inHour_0 : decode cX1_inHour 0 = .ok (.iconst 0, 1) := by decide +kernel
theorem dX1_inHour_1 : decode cX1_inHour 1 = .ok (.istore 6, 2) := by decide +kernel
theorem dX1_inHour_3 : decode cX1_inHour 3 = .ok (.iconst 0, 1) := by decide +kernel
theorem dX1_inHour_4 : decode cX1_inHour 4 = .ok (.istore 7, 2) := by decide +kernel
theorem dX1_inHour_6 : decode cX1_inHour 6 = .ok (.iload 7, 2) := by decide +kernel
theorem dX1_inHour_8 : decode cX1_inHour 8 = .ok (.aload_n 0, 1) := by decide +kernel
theorem dX1_inHour_9 : decode cX1_inHour 9 = .ok (.getfield 39, 3) := by decide +kernel
theorem dX1_inHour_12 : decode cX1_inHour 12 = .ok (.if_icmp .ge 38, 3) := by decide +kernel
theorem dX1_inHour_15 : decode cX1_inHour 15 = .ok (.aload_n 0, 1) := by decide +kernel
theorem dX1_inHour_16 : decode cX1_inHour 16 = .ok (.iload 7, 2) := by decide +kernel
theorem dX1_inHour_18 : decode cX1_inHour 18 = .ok (.iload_n 2, 1) := by decide +kernel
theorem dX1_inHour_19 : decode cX1_inHour 19 = .ok (.iload_n 3, 1) := by decide +kernel
theorem dX1_inHour_20 : decode cX1_inHour 20 = .ok (.iload 4, 2) := by decide +kernel
theorem dX1_inHour_22 : decode cX1_inHour 22 = .ok (.iload 5, 2) := by decide +kernel
theorem dX1_inHour_24 : decode cX1_inHour 24 = .ok (.invokevirtual 47, 3) := by decide +kernel
theorem dX1_inHour_27 : decode cX1_inHour 27 = .ok (.ifCond .eq 17, 3) := by decide +kernel
theorem dX1_inHour_30 : decode cX1_inHour 30 = .ok (.aload_n 0, 1) := by decide +kernel
theorem dX1_inHour_31 : decode cX1_inHour 31 = .ok (.getfield 15, 3) := by decide +kernel
theorem dX1_inHour_34 : decode cX1_inHour 34 = .ok (.iload 7, 2) := by decide +kernel
theorem dX1_inHour_36 : decode cX1_inHour 36 = .ok (.iaload, 1) := by decide +kernel
theorem dX1_inHour_37 : decode cX1_inHour 37 = .ok (.iload_n 1, 1) := by decide +kernel
theorem dX1_inHour_38 : decode cX1_inHour 38 = .ok (.if_icmp .ne 6, 3) := by decide +kernel
theorem dX1_inHour_41 : decode cX1_inHour 41 = .ok (.iinc 6 1, 3) := by decide +kernel
theorem dX1_inHour_44 : decode cX1_inHour 44 = .ok (.iinc 7 1, 3) := by decide +kernel
theorem dX1_inHour_47 : decode cX1_inHour 47 = .ok (.goto (-41), 3) := by decide +kernel
theorem dX1_inHour_50 : decode cX1_inHour 50 = .ok (.iload 6, 2) := by decide +kernel
theorem dX1_inHour_52 : decode cX1_inHour 52 = .ok (.ireturn, 1) := by decide +kernel
theorem dX1_sumAtPlace_0 : decode cX1_sumAtPlace 0 = .ok (.iconst 0, 1) := by decide +kernel
theorem dX1_sumAtPlace_1 : decode cX1_sumAtPlace 1 = .ok (.istore 6, 2) := by decide +kernel
theorem dX1_sumAtPlace_3 : decode cX1_sumAtPlace 3 = .ok (.iconst 0, 1) := by decide +kernel
theorem dX1_sumAtPlace_4 : decode cX1_sumAtPlace 4 = .ok (.istore 7, 2) := by decide +kernel
theorem dX1_sumAtPlace_6 : decode cX1_sumAtPlace 6 = .ok (.iload 7, 2) := by decide +kernel
theorem dX1_sumAtPlace_8 : decode cX1_sumAtPlace 8 = .ok (.aload_n 0, 1) := by decide +kernel
theorem dX1_sumAtPlace_9 : decode cX1_sumAtPlace 9 = .ok (.getfield 39, 3) := by decide +kernel
theorem dX1_sumAtPlace_12 : decode cX1_sumAtPlace 12 = .ok (.if_icmp .ge 57, 3) := by decide +kernel
theorem dX1_sumAtPlace_15 : decode cX1_sumAtPlace 15 = .ok (.aload_n 0, 1) := by decide +kernel
theorem dX1_sumAtPlace_16 : decode cX1_sumAtPlace 16 = .ok (.iload 7, 2) := by decide +kernel
theorem dX1_sumAtPlace_18 : decode cX1_sumAtPlace 18 = .ok (.iload_n 2, 1) := by decide +kernel
theorem dX1_sumAtPlace_19 : decode cX1_sumAtPlace 19 = .ok (.iload_n 3, 1) := by decide +kernel
theorem dX1_sumAtPlace_20 : decode cX1_sumAtPlace 20 = .ok (.iload 4, 2) := by decide +kernel
theorem dX1_sumAtPlace_22 : decode cX1_sumAtPlace 22 = .ok (.iload 5, 2) := by decide +kernel
theorem dX1_sumAtPlace_24 : decode cX1_sumAtPlace 24 = .ok (.invokevirtual 47, 3) := by decide +kernel
theorem dX1_sumAtPlace_27 : decode cX1_sumAtPlace 27 = .ok (.ifCond .eq 36, 3) := by decide +kernel
theorem dX1_sumAtPlace_30 : decode cX1_sumAtPlace 30 = .ok (.aload_n 0, 1) := by decide +kernel
theorem dX1_sumAtPlace_31 : decode cX1_sumAtPlace 31 = .ok (.iload 7, 2) := by decide +kernel
theorem dX1_sumAtPlace_33 : decode cX1_sumAtPlace 33 = .ok (.invokevirtual 61, 3) := by decide +kernel
theorem dX1_sumAtPlace_36 : decode cX1_sumAtPlace 36 = .ok (.ifCond .eq 27, 3) := by decide +kernel
theorem dX1_sumAtPlace_39 : decode cX1_sumAtPlace 39 = .ok (.aload_n 0, 1) := by decide +kernel
theorem dX1_sumAtPlace_40 : decode cX1_sumAtPlace 40 = .ok (.aload_n 0, 1) := by decide +kernel
theorem dX1_sumAtPlace_41 : decode cX1_sumAtPlace 41 = .ok (.getfield 30, 3) := by decide +kernel
theorem dX1_sumAtPlace_44 : decode cX1_sumAtPlace 44 = .ok (.iload 7, 2) := by decide +kernel
theorem dX1_sumAtPlace_46 : decode cX1_sumAtPlace 46 = .ok (.iaload, 1) := by decide +kernel
theorem dX1_sumAtPlace_47 : decode cX1_sumAtPlace 47 = .ok (.aload_n 0, 1) := by decide +kernel
theorem dX1_sumAtPlace_48 : decode cX1_sumAtPlace 48 = .ok (.getfield 33, 3) := by decide +kernel
theorem dX1_sumAtPlace_51 : decode cX1_sumAtPlace 51 = .ok (.iload 7, 2) := by decide +kernel
theorem dX1_sumAtPlace_53 : decode cX1_sumAtPlace 53 = .ok (.iaload, 1) := by decide +kernel
theorem dX1_sumAtPlace_54 : decode cX1_sumAtPlace 54 = .ok (.iadd, 1) := by decide +kernel
theorem dX1_sumAtPlace_55 : decode cX1_sumAtPlace 55 = .ok (.iload 6, 2) := by decide +kernel
theorem dX1_sumAtPlace_57 : decode cX1_sumAtPlace 57 = .ok (.invokevirtual 65, 3) := by decide +kernel
theorem dX1_sumAtPlace_60 : decode cX1_sumAtPlace 60 = .ok (.iinc 6 1, 3) := by decide +kernel
theorem dX1_sumAtPlace_63 : decode cX1_sumAtPlace 63 = .ok (.iinc 7 1, 3) := by decide +kernel
theorem dX1_sumAtPlace_66 : decode cX1_sumAtPlace 66 = .ok (.goto (-60), 3) := by decide +kernel
theorem dX1_sumAtPlace_69 : decode cX1_sumAtPlace 69 = .ok (.iload_n 1, 1) := by decide +kernel
theorem dX1_sumAtPlace_70 : decode cX1_sumAtPlace 70 = .ok (.iload 6, 2) := by decide +kernel
theorem dX1_sumAtPlace_72 : decode cX1_sumAtPlace 72 = .ok (.imul, 1) := by decide +kernel
theorem dX1_sumAtPlace_73 : decode cX1_sumAtPlace 73 = .ok (.bipush 100, 2) := by decide +kernel
theorem dX1_sumAtPlace_75 : decode cX1_sumAtPlace 75 = .ok (.iadd, 1) := by decide +kernel
theorem dX1_sumAtPlace_76 : decode cX1_sumAtPlace 76 = .ok (.iconst 1, 1) := by decide +kernel
theorem dX1_sumAtPlace_77 : decode cX1_sumAtPlace 77 = .ok (.isub, 1) := by decide +kernel
theorem dX1_sumAtPlace_78 : decode cX1_sumAtPlace 78 = .ok (.bipush 100, 2) := by decide +kernel
theorem dX1_sumAtPlace_80 : decode cX1_sumAtPlace 80 = .ok (.idiv, 1) := by decide +kernel
theorem dX1_sumAtPlace_81 : decode cX1_sumAtPlace 81 = .ok (.istore 7, 2) := by decide +kernel
theorem dX1_sumAtPlace_83 : decode cX1_sumAtPlace 83 = .ok (.iload 7, 2) := by decide +kernel
theorem dX1_sumAtPlace_85 : decode cX1_sumAtPlace 85 = .ok (.iconst 1, 1) := by decide +kernel
theorem dX1_sumAtPlace_86 : decode cX1_sumAtPlace 86 = .ok (.if_icmp .lt 22, 3) := by decide +kernel
theorem dX1_sumAtPlace_89 : decode cX1_sumAtPlace 89 = .ok (.iload 7, 2) := by decide +kernel
theorem dX1_sumAtPlace_91 : decode cX1_sumAtPlace 91 = .ok (.iload 6, 2) := by decide +kernel
theorem dX1_sumAtPlace_93 : decode cX1_sumAtPlace 93 = .ok (.if_icmp .gt 15, 3) := by decide +kernel
theorem dX1_sumAtPlace_96 : decode cX1_sumAtPlace 96 = .ok (.aload_n 0, 1) := by decide +kernel
theorem dX1_sumAtPlace_97 : decode cX1_sumAtPlace 97 = .ok (.getfield 36, 3) := by decide +kernel
theorem dX1_sumAtPlace_100 : decode cX1_sumAtPlace 100 = .ok (.iload 7, 2) := by decide +kernel
theorem dX1_sumAtPlace_102 : decode cX1_sumAtPlace 102 = .ok (.iconst 1, 1) := by decide +kernel
theorem dX1_sumAtPlace_103 : decode cX1_sumAtPlace 103 = .ok (.isub, 1) := by decide +kernel
theorem dX1_sumAtPlace_104 : decode cX1_sumAtPlace 104 = .ok (.iaload, 1) := by decide +kernel
theorem dX1_sumAtPlace_105 : decode cX1_sumAtPlace 105 = .ok (.goto 4, 3) := by decide +kernel
theorem dX1_sumAtPlace_108 : decode cX1_sumAtPlace 108 = .ok (.iconst (-1), 1) := by decide +kernel
theorem dX1_sumAtPlace_109 : decode cX1_sumAtPlace 109 = .ok (.ireturn, 1) := by decide +kernel
theorem dX1_hidden_0 : decode cX1_hidden 0 = .ok (.iconst 0, 1) := by decide +kernel
theorem dX1_hidden_1 : decode cX1_hidden 1 = .ok (.istore_n 3, 1) := by decide +kernel
theorem dX1_hidden_2 : decode cX1_hidden 2 = .ok (.iconst 0, 1) := by decide +kernel
theorem dX1_hidden_3 : decode cX1_hidden 3 = .ok (.istore 4, 2) := by decide +kernel
theorem dX1_hidden_5 : decode cX1_hidden 5 = .ok (.iload 4, 2) := by decide +kernel
theorem dX1_hidden_7 : decode cX1_hidden 7 = .ok (.aload_n 0, 1) := by decide +kernel
theorem dX1_hidden_8 : decode cX1_hidden 8 = .ok (.getfield 39, 3) := by decide +kernel
theorem dX1_hidden_11 : decode cX1_hidden 11 = .ok (.if_icmp .ge 32, 3) := by decide +kernel
theorem dX1_hidden_14 : decode cX1_hidden 14 = .ok (.aload_n 0, 1) := by decide +kernel
theorem dX1_hidden_15 : decode cX1_hidden 15 = .ok (.iload 4, 2) := by decide +kernel
theorem dX1_hidden_17 : decode cX1_hidden 17 = .ok (.invokevirtual 69, 3) := by decide +kernel
theorem dX1_hidden_20 : decode cX1_hidden 20 = .ok (.ifCond .eq 17, 3) := by decide +kernel
theorem dX1_hidden_23 : decode cX1_hidden 23 = .ok (.aload_n 0, 1) := by decide +kernel
theorem dX1_hidden_24 : decode cX1_hidden 24 = .ok (.iload 4, 2) := by decide +kernel
theorem dX1_hidden_26 : decode cX1_hidden 26 = .ok (.iload_n 1, 1) := by decide +kernel
theorem dX1_hidden_27 : decode cX1_hidden 27 = .ok (.iload_n 2, 1) := by decide +kernel
theorem dX1_hidden_28 : decode cX1_hidden 28 = .ok (.invokevirtual 72, 3) := by decide +kernel
theorem dX1_hidden_31 : decode cX1_hidden 31 = .ok (.ifCond .eq 6, 3) := by decide +kernel
theorem dX1_hidden_34 : decode cX1_hidden 34 = .ok (.iinc 3 1, 3) := by decide +kernel
theorem dX1_hidden_37 : decode cX1_hidden 37 = .ok (.iinc 4 1, 3) := by decide +kernel
theorem dX1_hidden_40 : decode cX1_hidden 40 = .ok (.goto (-35), 3) := by decide +kernel
theorem dX1_hidden_43 : decode cX1_hidden 43 = .ok (.iload_n 3, 1) := by decide +kernel
theorem dX1_hidden_44 : decode cX1_hidden 44 = .ok (.ireturn, 1) := by decide +kernel
theorem dX1_ofStation_0 : decode cX1_ofStation 0 = .ok (.iconst 0, 1) := by decide +kernel
theorem dX1_ofStation_1 : decode cX1_ofStation 1 = .ok (.istore 4, 2) := by decide +kernel
theorem dX1_ofStation_3 : decode cX1_ofStation 3 = .ok (.iconst 0, 1) := by decide +kernel
theorem dX1_ofStation_4 : decode cX1_ofStation 4 = .ok (.istore 5, 2) := by decide +kernel
theorem dX1_ofStation_6 : decode cX1_ofStation 6 = .ok (.iload 5, 2) := by decide +kernel
theorem dX1_ofStation_8 : decode cX1_ofStation 8 = .ok (.aload_n 0, 1) := by decide +kernel
theorem dX1_ofStation_9 : decode cX1_ofStation 9 = .ok (.getfield 39, 3) := by decide +kernel
theorem dX1_ofStation_12 : decode cX1_ofStation 12 = .ok (.if_icmp .ge 24, 3) := by decide +kernel
theorem dX1_ofStation_15 : decode cX1_ofStation 15 = .ok (.aload_n 0, 1) := by decide +kernel
theorem dX1_ofStation_16 : decode cX1_ofStation 16 = .ok (.iload 5, 2) := by decide +kernel
theorem dX1_ofStation_18 : decode cX1_ofStation 18 = .ok (.iload_n 1, 1) := by decide +kernel
theorem dX1_ofStation_19 : decode cX1_ofStation 19 = .ok (.iload_n 2, 1) := by decide +kernel
theorem dX1_ofStation_20 : decode cX1_ofStation 20 = .ok (.iload_n 3, 1) := by decide +kernel
theorem dX1_ofStation_21 : decode cX1_ofStation 21 = .ok (.invokevirtual 76, 3) := by decide +kernel
theorem dX1_ofStation_24 : decode cX1_ofStation 24 = .ok (.ifCond .eq 6, 3) := by decide +kernel
theorem dX1_ofStation_27 : decode cX1_ofStation 27 = .ok (.iinc 4 1, 3) := by decide +kernel
theorem dX1_ofStation_30 : decode cX1_ofStation 30 = .ok (.iinc 5 1, 3) := by decide +kernel
theorem dX1_ofStation_33 : decode cX1_ofStation 33 = .ok (.goto (-27), 3) := by decide +kernel
theorem dX1_ofStation_36 : decode cX1_ofStation 36 = .ok (.iload 4, 2) := by decide +kernel
theorem dX1_ofStation_38 : decode cX1_ofStation 38 = .ok (.ireturn, 1) := by decide +kernel
theorem dX1_secondsOfStation_0 : decode cX1_secondsOfStation 0 = .ok (.iconst 0, 1) := by decide +kernel
theorem dX1_secondsOfStation_1 : decode cX1_secondsOfStation 1 = .ok (.istore 4, 2) := by decide +kernel
theorem dX1_secondsOfStation_3 : decode cX1_secondsOfStation 3 = .ok (.iconst 0, 1) := by decide +kernel
theorem dX1_secondsOfStation_4 : decode cX1_secondsOfStation 4 = .ok (.istore 5, 2) := by decide +kernel
theorem dX1_secondsOfStation_6 : decode cX1_secondsOfStation 6 = .ok (.iload 5, 2) := by decide +kernel
theorem dX1_secondsOfStation_8 : decode cX1_secondsOfStation 8 = .ok (.aload_n 0, 1) := by decide +kernel
theorem dX1_secondsOfStation_9 : decode cX1_secondsOfStation 9 = .ok (.getfield 39, 3) := by decide +kernel
theorem dX1_secondsOfStation_12 : decode cX1_secondsOfStation 12 = .ok (.if_icmp .ge 47, 3) := by decide +kernel
theorem dX1_secondsOfStation_15 : decode cX1_secondsOfStation 15 = .ok (.aload_n 0, 1) := by decide +kernel
theorem dX1_secondsOfStation_16 : decode cX1_secondsOfStation 16 = .ok (.iload 5, 2) := by decide +kernel
theorem dX1_secondsOfStation_18 : decode cX1_secondsOfStation 18 = .ok (.iload_n 1, 1) := by decide +kernel
theorem dX1_secondsOfStation_19 : decode cX1_secondsOfStation 19 = .ok (.iload_n 2, 1) := by decide +kernel
theorem dX1_secondsOfStation_20 : decode cX1_secondsOfStation 20 = .ok (.iload_n 3, 1) := by decide +kernel
theorem dX1_secondsOfStation_21 : decode cX1_secondsOfStation 21 = .ok (.invokevirtual 76, 3) := by decide +kernel
theorem dX1_secondsOfStation_24 : decode cX1_secondsOfStation 24 = .ok (.ifCond .eq 29, 3) := by decide +kernel
theorem dX1_secondsOfStation_27 : decode cX1_secondsOfStation 27 = .ok (.iload 4, 2) := by decide +kernel
theorem dX1_secondsOfStation_29 : decode cX1_secondsOfStation 29 = .ok (.aload_n 0, 1) := by decide +kernel
theorem dX1_secondsOfStation_30 : decode cX1_secondsOfStation 30 = .ok (.getfield 30, 3) := by decide +kernel
theorem dX1_secondsOfStation_33 : decode cX1_secondsOfStation 33 = .ok (.iload 5, 2) := by decide +kernel
theorem dX1_secondsOfStation_35 : decode cX1_secondsOfStation 35 = .ok (.iaload, 1) := by decide +kernel
theorem dX1_secondsOfStation_36 : decode cX1_secondsOfStation 36 = .ok (.invokestatic 80, 3) := by decide +kernel
theorem dX1_secondsOfStation_39 : decode cX1_secondsOfStation 39 = .ok (.aload_n 0, 1) := by decide +kernel
theorem dX1_secondsOfStation_40 : decode cX1_secondsOfStation 40 = .ok (.getfield 33, 3) := by decide +kernel
theorem dX1_secondsOfStation_43 : decode cX1_secondsOfStation 43 = .ok (.iload 5, 2) := by decide +kernel
theorem dX1_secondsOfStation_45 : decode cX1_secondsOfStation 45 = .ok (.iaload, 1) := by decide +kernel
theorem dX1_secondsOfStation_46 : decode cX1_secondsOfStation 46 = .ok (.invokestatic 80, 3) := by decide +kernel
theorem dX1_secondsOfStation_49 : decode cX1_secondsOfStation 49 = .ok (.iadd, 1) := by decide +kernel
theorem dX1_secondsOfStation_50 : decode cX1_secondsOfStation 50 = .ok (.iadd, 1) := by decide +kernel
theorem dX1_secondsOfStation_51 : decode cX1_secondsOfStation 51 = .ok (.istore 4, 2) := by decide +kernel
theorem dX1_secondsOfStation_53 : decode cX1_secondsOfStation 53 = .ok (.iinc 5 1, 3) := by decide +kernel
theorem dX1_secondsOfStation_56 : decode cX1_secondsOfStation 56 = .ok (.goto (-50), 3) := by decide +kernel
theorem dX1_secondsOfStation_59 : decode cX1_secondsOfStation 59 = .ok (.iload 4, 2) := by decide +kernel
theorem dX1_secondsOfStation_61 : decode cX1_secondsOfStation 61 = .ok (.ireturn, 1) := by decide +kernel
theorem dX1_amount_0 : decode cX1_amount 0 = .ok (.iload_n 2, 1) := by decide +kernel
theorem dX1_amount_1 : decode cX1_amount 1 = .ok (.tableswitch 94 0 4 #[35, 37, 54, 69, 84], 35) := by decide +kernel
theorem dX1_amount_36 : decode cX1_amount 36 = .ok (.iconst 1, 1) := by decide +kernel
theorem dX1_amount_37 : decode cX1_amount 37 = .ok (.ireturn, 1) := by decide +kernel
theorem dX1_amount_38 : decode cX1_amount 38 = .ok (.aload_n 0, 1) := by decide +kernel
theorem dX1_amount_39 : decode cX1_amount 39 = .ok (.getfield 27, 3) := by decide +kernel
theorem dX1_amount_42 : decode cX1_amount 42 = .ok (.iload_n 1, 1) := by decide +kernel
theorem dX1_amount_43 : decode cX1_amount 43 = .ok (.iaload, 1) := by decide +kernel
theorem dX1_amount_44 : decode cX1_amount 44 = .ok (.iconst 1, 1) := by decide +kernel
theorem dX1_amount_45 : decode cX1_amount 45 = .ok (.iand, 1) := by decide +kernel
theorem dX1_amount_46 : decode cX1_amount 46 = .ok (.ifCond .eq 7, 3) := by decide +kernel
theorem dX1_amount_49 : decode cX1_amount 49 = .ok (.iconst 1, 1) := by decide +kernel
theorem dX1_amount_50 : decode cX1_amount 50 = .ok (.goto 4, 3) := by decide +kernel
theorem dX1_amount_53 : decode cX1_amount 53 = .ok (.iconst 0, 1) := by decide +kernel
theorem dX1_amount_54 : decode cX1_amount 54 = .ok (.ireturn, 1) := by decide +kernel
theorem dX1_amount_55 : decode cX1_amount 55 = .ok (.aload_n 0, 1) := by decide +kernel
theorem dX1_amount_56 : decode cX1_amount 56 = .ok (.iload_n 1, 1) := by decide +kernel
theorem dX1_amount_57 : decode cX1_amount 57 = .ok (.iload_n 3, 1) := by decide +kernel
theorem dX1_amount_58 : decode cX1_amount 58 = .ok (.invokevirtual 83, 3) := by decide +kernel
theorem dX1_amount_61 : decode cX1_amount 61 = .ok (.ifCond .eq 7, 3) := by decide +kernel
theorem dX1_amount_64 : decode cX1_amount 64 = .ok (.iconst 1, 1) := by decide +kernel
theorem dX1_amount_65 : decode cX1_amount 65 = .ok (.goto 4, 3) := by decide +kernel
theorem dX1_amount_68 : decode cX1_amount 68 = .ok (.iconst 0, 1) := by decide +kernel
theorem dX1_amount_69 : decode cX1_amount 69 = .ok (.ireturn, 1) := by decide +kernel
theorem dX1_amount_70 : decode cX1_amount 70 = .ok (.aload_n 0, 1) := by decide +kernel
theorem dX1_amount_71 : decode cX1_amount 71 = .ok (.iload_n 1, 1) := by decide +kernel
theorem dX1_amount_72 : decode cX1_amount 72 = .ok (.iload_n 3, 1) := by decide +kernel
theorem dX1_amount_73 : decode cX1_amount 73 = .ok (.invokevirtual 87, 3) := by decide +kernel
theorem dX1_amount_76 : decode cX1_amount 76 = .ok (.ifCond .eq 7, 3) := by decide +kernel
theorem dX1_amount_79 : decode cX1_amount 79 = .ok (.iconst 1, 1) := by decide +kernel
theorem dX1_amount_80 : decode cX1_amount 80 = .ok (.goto 4, 3) := by decide +kernel
theorem dX1_amount_83 : decode cX1_amount 83 = .ok (.iconst 0, 1) := by decide +kernel
theorem dX1_amount_84 : decode cX1_amount 84 = .ok (.ireturn, 1) := by decide +kernel
theorem dX1_amount_85 : decode cX1_amount 85 = .ok (.aload_n 0, 1) := by decide +kernel
theorem dX1_amount_86 : decode cX1_amount 86 = .ok (.getfield 30, 3) := by decide +kernel
theorem dX1_amount_89 : decode cX1_amount 89 = .ok (.iload_n 1, 1) := by decide +kernel
theorem dX1_amount_90 : decode cX1_amount 90 = .ok (.iaload, 1) := by decide +kernel
theorem dX1_amount_91 : decode cX1_amount 91 = .ok (.invokestatic 80, 3) := by decide +kernel
theorem dX1_amount_94 : decode cX1_amount 94 = .ok (.ireturn, 1) := by decide +kernel
theorem dX1_amount_95 : decode cX1_amount 95 = .ok (.iconst 0, 1) := by decide +kernel
theorem dX1_amount_96 : decode cX1_amount 96 = .ok (.ireturn, 1) := by decide +kernel
theorem dX1_isWork_0 : decode cX1_isWork 0 = .ok (.aload_n 0, 1) := by decide +kernel
theorem dX1_isWork_1 : decode cX1_isWork 1 = .ok (.getfield 24, 3) := by decide +kernel
theorem dX1_isWork_4 : decode cX1_isWork 4 = .ok (.iload_n 1, 1) := by decide +kernel
theorem dX1_isWork_5 : decode cX1_isWork 5 = .ok (.iaload, 1) := by decide +kernel
theorem dX1_isWork_6 : decode cX1_isWork 6 = .ok (.iload_n 2, 1) := by decide +kernel
theorem dX1_isWork_7 : decode cX1_isWork 7 = .ok (.if_icmp .ne 20, 3) := by decide +kernel
theorem dX1_isWork_10 : decode cX1_isWork 10 = .ok (.aload_n 0, 1) := by decide +kernel
theorem dX1_isWork_11 : decode cX1_isWork 11 = .ok (.iload_n 1, 1) := by decide +kernel
theorem dX1_isWork_12 : decode cX1_isWork 12 = .ok (.iload_n 3, 1) := by decide +kernel
theorem dX1_isWork_13 : decode cX1_isWork 13 = .ok (.iload 4, 2) := by decide +kernel
theorem dX1_isWork_15 : decode cX1_isWork 15 = .ok (.iconst (-1), 1) := by decide +kernel
theorem dX1_isWork_16 : decode cX1_isWork 16 = .ok (.iconst (-1), 1) := by decide +kernel
theorem dX1_isWork_17 : decode cX1_isWork 17 = .ok (.invokevirtual 47, 3) := by decide +kernel
theorem dX1_isWork_20 : decode cX1_isWork 20 = .ok (.ifCond .eq 7, 3) := by decide +kernel
theorem dX1_isWork_23 : decode cX1_isWork 23 = .ok (.iconst 1, 1) := by decide +kernel
theorem dX1_isWork_24 : decode cX1_isWork 24 = .ok (.goto 4, 3) := by decide +kernel
theorem dX1_isWork_27 : decode cX1_isWork 27 = .ok (.iconst 0, 1) := by decide +kernel
theorem dX1_isWork_28 : decode cX1_isWork 28 = .ok (.ireturn, 1) := by decide +kernel
theorem dX1_isAsked_0 : decode cX1_isAsked 0 = .ok (.aload_n 0, 1) := by decide +kernel
theorem dX1_isAsked_1 : decode cX1_isAsked 1 = .ok (.iload_n 1, 1) := by decide +kernel
theorem dX1_isAsked_2 : decode cX1_isAsked 2 = .ok (.invokevirtual 69, 3) := by decide +kernel
theorem dX1_isAsked_5 : decode cX1_isAsked 5 = .ok (.ifCond .ne 51, 3) := by decide +kernel
theorem dX1_isAsked_8 : decode cX1_isAsked 8 = .ok (.aload_n 0, 1) := by decide +kernel
theorem dX1_isAsked_9 : decode cX1_isAsked 9 = .ok (.iload_n 1, 1) := by decide +kernel
theorem dX1_isAsked_10 : decode cX1_isAsked 10 = .ok (.iload_n 2, 1) := by decide +kernel
theorem dX1_isAsked_11 : decode cX1_isAsked 11 = .ok (.iload_n 3, 1) := by decide +kernel
theorem dX1_isAsked_12 : decode cX1_isAsked 12 = .ok (.invokevirtual 72, 3) := by decide +kernel
theorem dX1_isAsked_15 : decode cX1_isAsked 15 = .ok (.ifCond .eq 41, 3) := by decide +kernel
theorem dX1_isAsked_18 : decode cX1_isAsked 18 = .ok (.iload 4, 2) := by decide +kernel
theorem dX1_isAsked_20 : decode cX1_isAsked 20 = .ok (.iconst (-1), 1) := by decide +kernel
theorem dX1_isAsked_21 : decode cX1_isAsked 21 = .ok (.if_icmp .eq 14, 3) := by decide +kernel
theorem dX1_isAsked_24 : decode cX1_isAsked 24 = .ok (.aload_n 0, 1) := by decide +kernel
theorem dX1_isAsked_25 : decode cX1_isAsked 25 = .ok (.getfield 18, 3) := by decide +kernel
theorem dX1_isAsked_28 : decode cX1_isAsked 28 = .ok (.iload_n 1, 1) := by decide +kernel
theorem dX1_isAsked_29 : decode cX1_isAsked 29 = .ok (.iaload, 1) := by decide +kernel
theorem dX1_isAsked_30 : decode cX1_isAsked 30 = .ok (.iload 4, 2) := by decide +kernel
theorem dX1_isAsked_32 : decode cX1_isAsked 32 = .ok (.if_icmp .ne 24, 3) := by decide +kernel
theorem dX1_isAsked_35 : decode cX1_isAsked 35 = .ok (.iload 5, 2) := by decide +kernel
theorem dX1_isAsked_37 : decode cX1_isAsked 37 = .ok (.iconst (-1), 1) := by decide +kernel
theorem dX1_isAsked_38 : decode cX1_isAsked 38 = .ok (.if_icmp .eq 14, 3) := by decide +kernel
theorem dX1_isAsked_41 : decode cX1_isAsked 41 = .ok (.aload_n 0, 1) := by decide +kernel
theorem dX1_isAsked_42 : decode cX1_isAsked 42 = .ok (.getfield 21, 3) := by decide +kernel
theorem dX1_isAsked_45 : decode cX1_isAsked 45 = .ok (.iload_n 1, 1) := by decide +kernel
theorem dX1_isAsked_46 : decode cX1_isAsked 46 = .ok (.iaload, 1) := by decide +kernel
theorem dX1_isAsked_47 : decode cX1_isAsked 47 = .ok (.iload 5, 2) := by decide +kernel
theorem dX1_isAsked_49 : decode cX1_isAsked 49 = .ok (.if_icmp .ne 7, 3) := by decide +kernel
theorem dX1_isAsked_52 : decode cX1_isAsked 52 = .ok (.iconst 1, 1) := by decide +kernel
theorem dX1_isAsked_53 : decode cX1_isAsked 53 = .ok (.goto 4, 3) := by decide +kernel
theorem dX1_isAsked_56 : decode cX1_isAsked 56 = .ok (.iconst 0, 1) := by decide +kernel
theorem dX1_isAsked_57 : decode cX1_isAsked 57 = .ok (.ireturn, 1) := by decide +kernel
theorem dX1_isHidden_0 : decode cX1_isHidden 0 = .ok (.aload_n 0, 1) := by decide +kernel
theorem dX1_isHidden_1 : decode cX1_isHidden 1 = .ok (.getfield 27, 3) := by decide +kernel
theorem dX1_isHidden_4 : decode cX1_isHidden 4 = .ok (.iload_n 1, 1) := by decide +kernel
theorem dX1_isHidden_5 : decode cX1_isHidden 5 = .ok (.iaload, 1) := by decide +kernel
theorem dX1_isHidden_6 : decode cX1_isHidden 6 = .ok (.iconst 2, 1) := by decide +kernel
theorem dX1_isHidden_7 : decode cX1_isHidden 7 = .ok (.iand, 1) := by decide +kernel
theorem dX1_isHidden_8 : decode cX1_isHidden 8 = .ok (.ifCond .eq 7, 3) := by decide +kernel
theorem dX1_isHidden_11 : decode cX1_isHidden 11 = .ok (.iconst 1, 1) := by decide +kernel
theorem dX1_isHidden_12 : decode cX1_isHidden 12 = .ok (.goto 4, 3) := by decide +kernel
theorem dX1_isHidden_15 : decode cX1_isHidden 15 = .ok (.iconst 0, 1) := by decide +kernel
theorem dX1_isHidden_16 : decode cX1_isHidden 16 = .ok (.ireturn, 1) := by decide +kernel
theorem dX1_isInSpan_0 : decode cX1_isInSpan 0 = .ok (.aload_n 0, 1) := by decide +kernel
theorem dX1_isInSpan_1 : decode cX1_isInSpan 1 = .ok (.getfield 9, 3) := by decide +kernel
theorem dX1_isInSpan_4 : decode cX1_isInSpan 4 = .ok (.iload_n 1, 1) := by decide +kernel
theorem dX1_isInSpan_5 : decode cX1_isInSpan 5 = .ok (.iaload, 1) := by decide +kernel
theorem dX1_isInSpan_6 : decode cX1_isInSpan 6 = .ok (.iload_n 2, 1) := by decide +kernel
theorem dX1_isInSpan_7 : decode cX1_isInSpan 7 = .ok (.if_icmp .lt 17, 3) := by decide +kernel
theorem dX1_isInSpan_10 : decode cX1_isInSpan 10 = .ok (.aload_n 0, 1) := by decide +kernel
theorem dX1_isInSpan_11 : decode cX1_isInSpan 11 = .ok (.getfield 9, 3) := by decide +kernel
theorem dX1_isInSpan_14 : decode cX1_isInSpan 14 = .ok (.iload_n 1, 1) := by decide +kernel
theorem dX1_isInSpan_15 : decode cX1_isInSpan 15 = .ok (.iaload, 1) := by decide +kernel
theorem dX1_isInSpan_16 : decode cX1_isInSpan 16 = .ok (.iload_n 3, 1) := by decide +kernel
theorem dX1_isInSpan_17 : decode cX1_isInSpan 17 = .ok (.if_icmp .gt 7, 3) := by decide +kernel
theorem dX1_isInSpan_20 : decode cX1_isInSpan 20 = .ok (.iconst 1, 1) := by decide +kernel
theorem dX1_isInSpan_21 : decode cX1_isInSpan 21 = .ok (.goto 4, 3) := by decide +kernel
theorem dX1_isInSpan_24 : decode cX1_isInSpan 24 = .ok (.iconst 0, 1) := by decide +kernel
theorem dX1_isInSpan_25 : decode cX1_isInSpan 25 = .ok (.ireturn, 1) := by decide +kernel
theorem dX1_hasBothValues_0 : decode cX1_hasBothValues 0 = .ok (.aload_n 0, 1) := by decide +kernel
theorem dX1_hasBothValues_1 : decode cX1_hasBothValues 1 = .ok (.getfield 30, 3) := by decide +kernel
theorem dX1_hasBothValues_4 : decode cX1_hasBothValues 4 = .ok (.iload_n 1, 1) := by decide +kernel
theorem dX1_hasBothValues_5 : decode cX1_hasBothValues 5 = .ok (.iaload, 1) := by decide +kernel
theorem dX1_hasBothValues_6 : decode cX1_hasBothValues 6 = .ok (.iconst (-1), 1) := by decide +kernel
theorem dX1_hasBothValues_7 : decode cX1_hasBothValues 7 = .ok (.if_icmp .eq 17, 3) := by decide +kernel
theorem dX1_hasBothValues_10 : decode cX1_hasBothValues 10 = .ok (.aload_n 0, 1) := by decide +kernel
theorem dX1_hasBothValues_11 : decode cX1_hasBothValues 11 = .ok (.getfield 33, 3) := by decide +kernel
theorem dX1_hasBothValues_14 : decode cX1_hasBothValues 14 = .ok (.iload_n 1, 1) := by decide +kernel
theorem dX1_hasBothValues_15 : decode cX1_hasBothValues 15 = .ok (.iaload, 1) := by decide +kernel
theorem dX1_hasBothValues_16 : decode cX1_hasBothValues 16 = .ok (.iconst (-1), 1) := by decide +kernel
theorem dX1_hasBothValues_17 : decode cX1_hasBothValues 17 = .ok (.if_icmp .eq 7, 3) := by decide +kernel
theorem dX1_hasBothValues_20 : decode cX1_hasBothValues 20 = .ok (.iconst 1, 1) := by decide +kernel
theorem dX1_hasBothValues_21 : decode cX1_hasBothValues 21 = .ok (.goto 4, 3) := by decide +kernel
theorem dX1_hasBothValues_24 : decode cX1_hasBothValues 24 = .ok (.iconst 0, 1) := by decide +kernel
theorem dX1_hasBothValues_25 : decode cX1_hasBothValues 25 = .ok (.ireturn, 1) := by decide +kernel
theorem dX1_isWithout_0 : decode cX1_isWithout 0 = .ok (.iload_n 2, 1) := by decide +kernel
theorem dX1_isWithout_1 : decode cX1_isWithout 1 = .ok (.iconst (-1), 1) := by decide +kernel
theorem dX1_isWithout_2 : decode cX1_isWithout 2 = .ok (.if_icmp .eq 11, 3) := by decide +kernel
theorem dX1_isWithout_5 : decode cX1_isWithout 5 = .ok (.aload_n 0, 1) := by decide +kernel
theorem dX1_isWithout_6 : decode cX1_isWithout 6 = .ok (.iload_n 1, 1) := by decide +kernel
theorem dX1_isWithout_7 : decode cX1_isWithout 7 = .ok (.invokevirtual 61, 3) := by decide +kernel
theorem dX1_isWithout_10 : decode cX1_isWithout 10 = .ok (.ifCond .ne 7, 3) := by decide +kernel
theorem dX1_isWithout_13 : decode cX1_isWithout 13 = .ok (.iconst 1, 1) := by decide +kernel
theorem dX1_isWithout_14 : decode cX1_isWithout 14 = .ok (.goto 4, 3) := by decide +kernel
theorem dX1_isWithout_17 : decode cX1_isWithout 17 = .ok (.iconst 0, 1) := by decide +kernel
theorem dX1_isWithout_18 : decode cX1_isWithout 18 = .ok (.ireturn, 1) := by decide +kernel
theorem dX1_isWithin_0 : decode cX1_isWithin 0 = .ok (.aload_n 0, 1) := by decide +kernel
theorem dX1_isWithin_1 : decode cX1_isWithin 1 = .ok (.iload_n 1, 1) := by decide +kernel
theorem dX1_isWithin_2 : decode cX1_isWithin 2 = .ok (.iload_n 2, 1) := by decide +kernel
theorem dX1_isWithin_3 : decode cX1_isWithin 3 = .ok (.invokevirtual 87, 3) := by decide +kernel
theorem dX1_isWithin_6 : decode cX1_isWithin 6 = .ok (.ifCond .ne 24, 3) := by decide +kernel
theorem dX1_isWithin_9 : decode cX1_isWithin 9 = .ok (.aload_n 0, 1) := by decide +kernel
theorem dX1_isWithin_10 : decode cX1_isWithin 10 = .ok (.getfield 30, 3) := by decide +kernel
theorem dX1_isWithin_13 : decode cX1_isWithin 13 = .ok (.iload_n 1, 1) := by decide +kernel
theorem dX1_isWithin_14 : decode cX1_isWithin 14 = .ok (.iaload, 1) := by decide +kernel
theorem dX1_isWithin_15 : decode cX1_isWithin 15 = .ok (.aload_n 0, 1) := by decide +kernel
theorem dX1_isWithin_16 : decode cX1_isWithin 16 = .ok (.getfield 33, 3) := by decide +kernel
theorem dX1_isWithin_19 : decode cX1_isWithin 19 = .ok (.iload_n 1, 1) := by decide +kernel
theorem dX1_isWithin_20 : decode cX1_isWithin 20 = .ok (.iaload, 1) := by decide +kernel
theorem dX1_isWithin_21 : decode cX1_isWithin 21 = .ok (.iadd, 1) := by decide +kernel
theorem dX1_isWithin_22 : decode cX1_isWithin 22 = .ok (.iload_n 2, 1) := by decide +kernel
theorem dX1_isWithin_23 : decode cX1_isWithin 23 = .ok (.if_icmp .gt 7, 3) := by decide +kernel
theorem dX1_isWithin_26 : decode cX1_isWithin 26 = .ok (.iconst 1, 1) := by decide +kernel
theorem dX1_isWithin_27 : decode cX1_isWithin 27 = .ok (.goto 4, 3) := by decide +kernel
theorem dX1_isWithin_30 : decode cX1_isWithin 30 = .ok (.iconst 0, 1) := by decide +kernel
theorem dX1_isWithin_31 : decode cX1_isWithin 31 = .ok (.ireturn, 1) := by decide +kernel
theorem dX1_secondsOf_0 : decode cX1_secondsOf 0 = .ok (.iload_n 0, 1) := by decide +kernel
theorem dX1_secondsOf_1 : decode cX1_secondsOf 1 = .ok (.iconst (-1), 1) := by decide +kernel
theorem dX1_secondsOf_2 : decode cX1_secondsOf 2 = .ok (.if_icmp .ne 7, 3) := by decide +kernel
theorem dX1_secondsOf_5 : decode cX1_secondsOf 5 = .ok (.iconst 0, 1) := by decide +kernel
theorem dX1_secondsOf_6 : decode cX1_secondsOf 6 = .ok (.goto 4, 3) := by decide +kernel
theorem dX1_secondsOf_9 : decode cX1_secondsOf 9 = .ok (.iload_n 0, 1) := by decide +kernel
theorem dX1_secondsOf_10 : decode cX1_secondsOf 10 = .ok (.ireturn, 1) := by decide +kernel
theorem dX1_sortIn_0 : decode cX1_sortIn 0 = .ok (.iload_n 2, 1) := by decide +kernel
theorem dX1_sortIn_1 : decode cX1_sortIn 1 = .ok (.ifCond .lt 10, 3) := by decide +kernel
theorem dX1_sortIn_4 : decode cX1_sortIn 4 = .ok (.iload_n 2, 1) := by decide +kernel
theorem dX1_sortIn_5 : decode cX1_sortIn 5 = .ok (.sipush 200, 3) := by decide +kernel
theorem dX1_sortIn_8 : decode cX1_sortIn 8 = .ok (.if_icmp .lt 4, 3) := by decide +kernel
theorem dX1_sortIn_11 : decode cX1_sortIn 11 = .ok (.return_, 1) := by decide +kernel
theorem dX1_sortIn_12 : decode cX1_sortIn 12 = .ok (.iload_n 2, 1) := by decide +kernel
theorem dX1_sortIn_13 : decode cX1_sortIn 13 = .ok (.istore_n 3, 1) := by decide +kernel
theorem dX1_sortIn_14 : decode cX1_sortIn 14 = .ok (.iload_n 3, 1) := by decide +kernel
theorem dX1_sortIn_15 : decode cX1_sortIn 15 = .ok (.ifCond .le 35, 3) := by decide +kernel
theorem dX1_sortIn_18 : decode cX1_sortIn 18 = .ok (.aload_n 0, 1) := by decide +kernel
theorem dX1_sortIn_19 : decode cX1_sortIn 19 = .ok (.getfield 36, 3) := by decide +kernel
theorem dX1_sortIn_22 : decode cX1_sortIn 22 = .ok (.iload_n 3, 1) := by decide +kernel
theorem dX1_sortIn_23 : decode cX1_sortIn 23 = .ok (.iconst 1, 1) := by decide +kernel
theorem dX1_sortIn_24 : decode cX1_sortIn 24 = .ok (.isub, 1) := by decide +kernel
theorem dX1_sortIn_25 : decode cX1_sortIn 25 = .ok (.iaload, 1) := by decide +kernel
theorem dX1_sortIn_26 : decode cX1_sortIn 26 = .ok (.iload_n 1, 1) := by decide +kernel
theorem dX1_sortIn_27 : decode cX1_sortIn 27 = .ok (.if_icmp .le 23, 3) := by decide +kernel
theorem dX1_sortIn_30 : decode cX1_sortIn 30 = .ok (.aload_n 0, 1) := by decide +kernel
theorem dX1_sortIn_31 : decode cX1_sortIn 31 = .ok (.getfield 36, 3) := by decide +kernel
theorem dX1_sortIn_34 : decode cX1_sortIn 34 = .ok (.iload_n 3, 1) := by decide +kernel
theorem dX1_sortIn_35 : decode cX1_sortIn 35 = .ok (.aload_n 0, 1) := by decide +kernel
theorem dX1_sortIn_36 : decode cX1_sortIn 36 = .ok (.getfield 36, 3) := by decide +kernel
theorem dX1_sortIn_39 : decode cX1_sortIn 39 = .ok (.iload_n 3, 1) := by decide +kernel
theorem dX1_sortIn_40 : decode cX1_sortIn 40 = .ok (.iconst 1, 1) := by decide +kernel
theorem dX1_sortIn_41 : decode cX1_sortIn 41 = .ok (.isub, 1) := by decide +kernel
theorem dX1_sortIn_42 : decode cX1_sortIn 42 = .ok (.iaload, 1) := by decide +kernel
theorem dX1_sortIn_43 : decode cX1_sortIn 43 = .ok (.iastore, 1) := by decide +kernel
theorem dX1_sortIn_44 : decode cX1_sortIn 44 = .ok (.iinc 3 (-1), 3) := by decide +kernel
theorem dX1_sortIn_47 : decode cX1_sortIn 47 = .ok (.goto (-33), 3) := by decide +kernel
theorem dX1_sortIn_50 : decode cX1_sortIn 50 = .ok (.aload_n 0, 1) := by decide +kernel
theorem dX1_sortIn_51 : decode cX1_sortIn 51 = .ok (.getfield 36, 3) := by decide +kernel
theorem dX1_sortIn_54 : decode cX1_sortIn 54 = .ok (.iload_n 3, 1) := by decide +kernel
theorem dX1_sortIn_55 : decode cX1_sortIn 55 = .ok (.iload_n 1, 1) := by decide +kernel
theorem dX1_sortIn_56 : decode cX1_sortIn 56 = .ok (.iastore, 1) := by decide +kernel
theorem dX1_sortIn_57 : decode cX1_sortIn 57 = .ok (.return_, 1) := by decide +kernel
theorem dX2_init_0 : decode cX2_init 0 = .ok (.aload_n 0, 1) := by decide +kernel
theorem dX2_init_1 : decode cX2_init 1 = .ok (.invokespecial 3, 3) := by decide +kernel
theorem dX2_init_4 : decode cX2_init 4 = .ok (.aload_n 0, 1) := by decide +kernel
theorem dX2_init_5 : decode cX2_init 5 = .ok (.bipush 10, 2) := by decide +kernel
theorem dX2_init_7 : decode cX2_init 7 = .ok (.newarray .int, 2) := by decide +kernel
theorem dX2_init_9 : decode cX2_init 9 = .ok (.putfield 9, 3) := by decide +kernel
theorem dX2_init_12 : decode cX2_init 12 = .ok (.aload_n 0, 1) := by decide +kernel
theorem dX2_init_13 : decode cX2_init 13 = .ok (.bipush 10, 2) := by decide +kernel
theorem dX2_init_15 : decode cX2_init 15 = .ok (.newarray .boolean, 2) := by decide +kernel
theorem dX2_init_17 : decode cX2_init 17 = .ok (.putfield 15, 3) := by decide +kernel
theorem dX2_init_20 : decode cX2_init 20 = .ok (.aload_n 0, 1) := by decide +kernel
theorem dX2_init_21 : decode cX2_init 21 = .ok (.iconst 3, 1) := by decide +kernel
theorem dX2_init_22 : decode cX2_init 22 = .ok (.putfield 19, 3) := by decide +kernel
theorem dX2_init_25 : decode cX2_init 25 = .ok (.return_, 1) := by decide +kernel
theorem dX2_setLeast_0 : decode cX2_setLeast 0 = .ok (.aload_n 0, 1) := by decide +kernel
theorem dX2_setLeast_1 : decode cX2_setLeast 1 = .ok (.iload_n 1, 1) := by decide +kernel
theorem dX2_setLeast_2 : decode cX2_setLeast 2 = .ok (.putfield 19, 3) := by decide +kernel
theorem dX2_setLeast_5 : decode cX2_setLeast 5 = .ok (.return_, 1) := by decide +kernel
theorem dX2_join_0 : decode cX2_join 0 = .ok (.aload_n 0, 1) := by decide +kernel
theorem dX2_join_1 : decode cX2_join 1 = .ok (.iconst 0, 1) := by decide +kernel
theorem dX2_join_2 : decode cX2_join 2 = .ok (.putfield 23, 3) := by decide +kernel
theorem dX2_join_5 : decode cX2_join 5 = .ok (.iconst 0, 1) := by decide +kernel
theorem dX2_join_6 : decode cX2_join 6 = .ok (.istore 4, 2) := by decide +kernel
theorem dX2_join_8 : decode cX2_join 8 = .ok (.iload 4, 2) := by decide +kernel
theorem dX2_join_10 : decode cX2_join 10 = .ok (.bipush 10, 2) := by decide +kernel
theorem dX2_join_12 : decode cX2_join 12 = .ok (.if_icmp .ge 81, 3) := by decide +kernel
theorem dX2_join_15 : decode cX2_join 15 = .ok (.aload_n 1, 1) := by decide +kernel
theorem dX2_join_16 : decode cX2_join 16 = .ok (.iload_n 2, 1) := by decide +kernel
theorem dX2_join_17 : decode cX2_join 17 = .ok (.iload_n 3, 1) := by decide +kernel
theorem dX2_join_18 : decode cX2_join 18 = .ok (.iconst (-1), 1) := by decide +kernel
theorem dX2_join_19 : decode cX2_join 19 = .ok (.iload 4, 2) := by decide +kernel
theorem dX2_join_21 : decode cX2_join 21 = .ok (.invokevirtual 26, 3) := by decide +kernel
theorem dX2_join_24 : decode cX2_join 24 = .ok (.istore 5, 2) := by decide +kernel
theorem dX2_join_26 : decode cX2_join 26 = .ok (.aload_n 0, 1) := by decide +kernel
theorem dX2_join_27 : decode cX2_join 27 = .ok (.getfield 9, 3) := by decide +kernel
theorem dX2_join_30 : decode cX2_join 30 = .ok (.iload 4, 2) := by decide +kernel
theorem dX2_join_32 : decode cX2_join 32 = .ok (.iload 5, 2) := by decide +kernel
theorem dX2_join_34 : decode cX2_join 34 = .ok (.iastore, 1) := by decide +kernel
theorem dX2_join_35 : decode cX2_join 35 = .ok (.aload_n 0, 1) := by decide +kernel
theorem dX2_join_36 : decode cX2_join 36 = .ok (.getfield 15, 3) := by decide +kernel
theorem dX2_join_39 : decode cX2_join 39 = .ok (.iload 4, 2) := by decide +kernel
theorem dX2_join_41 : decode cX2_join 41 = .ok (.iload 5, 2) := by decide +kernel
theorem dX2_join_43 : decode cX2_join 43 = .ok (.iconst 1, 1) := by decide +kernel
theorem dX2_join_44 : decode cX2_join 44 = .ok (.if_icmp .lt 16, 3) := by decide +kernel
theorem dX2_join_47 : decode cX2_join 47 = .ok (.iload 5, 2) := by decide +kernel
theorem dX2_join_49 : decode cX2_join 49 = .ok (.aload_n 0, 1) := by decide +kernel
theorem dX2_join_50 : decode cX2_join 50 = .ok (.getfield 19, 3) := by decide +kernel
theorem dX2_join_53 : decode cX2_join 53 = .ok (.if_icmp .ge 7, 3) := by decide +kernel
theorem dX2_join_56 : decode cX2_join 56 = .ok (.iconst 1, 1) := by decide +kernel
theorem dX2_join_57 : decode cX2_join 57 = .ok (.goto 4, 3) := by decide +kernel
theorem dX2_join_60 : decode cX2_join 60 = .ok (.iconst 0, 1) := by decide +kernel
theorem dX2_join_61 : decode cX2_join 61 = .ok (.bastore, 1) := by decide +kernel
theorem dX2_join_62 : decode cX2_join 62 = .ok (.aload_n 0, 1) := by decide +kernel
theorem dX2_join_63 : decode cX2_join 63 = .ok (.dup, 1) := by decide +kernel
theorem dX2_join_64 : decode cX2_join 64 = .ok (.getfield 23, 3) := by decide +kernel
theorem dX2_join_67 : decode cX2_join 67 = .ok (.aload_n 0, 1) := by decide +kernel
theorem dX2_join_68 : decode cX2_join 68 = .ok (.getfield 15, 3) := by decide +kernel
theorem dX2_join_71 : decode cX2_join 71 = .ok (.iload 4, 2) := by decide +kernel
theorem dX2_join_73 : decode cX2_join 73 = .ok (.baload, 1) := by decide +kernel
theorem dX2_join_74 : decode cX2_join 74 = .ok (.ifCond .eq 8, 3) := by decide +kernel
theorem dX2_join_77 : decode cX2_join 77 = .ok (.iload 5, 2) := by decide +kernel
theorem dX2_join_79 : decode cX2_join 79 = .ok (.goto 4, 3) := by decide +kernel
theorem dX2_join_82 : decode cX2_join 82 = .ok (.iconst 0, 1) := by decide +kernel
theorem dX2_join_83 : decode cX2_join 83 = .ok (.iadd, 1) := by decide +kernel
theorem dX2_join_84 : decode cX2_join 84 = .ok (.putfield 23, 3) := by decide +kernel
theorem dX2_join_87 : decode cX2_join 87 = .ok (.iinc 4 1, 3) := by decide +kernel
theorem dX2_join_90 : decode cX2_join 90 = .ok (.goto (-82), 3) := by decide +kernel
theorem dX2_join_93 : decode cX2_join 93 = .ok (.aload_n 0, 1) := by decide +kernel
theorem dX2_join_94 : decode cX2_join 94 = .ok (.getfield 23, 3) := by decide +kernel
theorem dX2_join_97 : decode cX2_join 97 = .ok (.ifCond .le 22, 3) := by decide +kernel
theorem dX2_join_100 : decode cX2_join 100 = .ok (.aload_n 0, 1) := by decide +kernel
theorem dX2_join_101 : decode cX2_join 101 = .ok (.dup, 1) := by decide +kernel
theorem dX2_join_102 : decode cX2_join 102 = .ok (.getfield 23, 3) := by decide +kernel
theorem dX2_join_105 : decode cX2_join 105 = .ok (.aload_n 1, 1) := by decide +kernel
theorem dX2_join_106 : decode cX2_join 106 = .ok (.iload_n 2, 1) := by decide +kernel
theorem dX2_join_107 : decode cX2_join 107 = .ok (.iload_n 3, 1) := by decide +kernel
theorem dX2_join_108 : decode cX2_join 108 = .ok (.invokevirtual 32, 3) := by decide +kernel
theorem dX2_join_111 : decode cX2_join 111 = .ok (.iadd, 1) := by decide +kernel
theorem dX2_join_112 : decode cX2_join 112 = .ok (.putfield 23, 3) := by decide +kernel
theorem dX2_join_115 : decode cX2_join 115 = .ok (.aload_n 0, 1) := by decide +kernel
theorem dX2_join_116 : decode cX2_join 116 = .ok (.invokevirtual 36, 3) := by decide +kernel
theorem dX2_join_119 : decode cX2_join 119 = .ok (.return_, 1) := by decide +kernel
theorem dX2_rowsShown_0 : decode cX2_rowsShown 0 = .ok (.iload_n 1, 1) := by decide +kernel
theorem dX2_rowsShown_1 : decode cX2_rowsShown 1 = .ok (.ifCond .lt 18, 3) := by decide +kernel
theorem dX2_rowsShown_4 : decode cX2_rowsShown 4 = .ok (.iload_n 1, 1) := by decide +kernel
theorem dX2_rowsShown_5 : decode cX2_rowsShown 5 = .ok (.bipush 10, 2) := by decide +kernel
theorem dX2_rowsShown_7 : decode cX2_rowsShown 7 = .ok (.if_icmp .ge 12, 3) := by decide +kernel
theorem dX2_rowsShown_10 : decode cX2_rowsShown 10 = .ok (.aload_n 0, 1) := by decide +kernel
theorem dX2_rowsShown_11 : decode cX2_rowsShown 11 = .ok (.getfield 15, 3) := by decide +kernel
theorem dX2_rowsShown_14 : decode cX2_rowsShown 14 = .ok (.iload_n 1, 1) := by decide +kernel
theorem dX2_rowsShown_15 : decode cX2_rowsShown 15 = .ok (.baload, 1) := by decide +kernel
theorem dX2_rowsShown_16 : decode cX2_rowsShown 16 = .ok (.ifCond .eq 5, 3) := by decide +kernel
theorem dX2_rowsShown_19 : decode cX2_rowsShown 19 = .ok (.iconst (-1), 1) := by decide +kernel
theorem dX2_rowsShown_20 : decode cX2_rowsShown 20 = .ok (.ireturn, 1) := by decide +kernel
theorem dX2_rowsShown_21 : decode cX2_rowsShown 21 = .ok (.aload_n 0, 1) := by decide +kernel
theorem dX2_rowsShown_22 : decode cX2_rowsShown 22 = .ok (.getfield 9, 3) := by decide +kernel
theorem dX2_rowsShown_25 : decode cX2_rowsShown 25 = .ok (.iload_n 1, 1) := by decide +kernel
theorem dX2_rowsShown_26 : decode cX2_rowsShown 26 = .ok (.iaload, 1) := by decide +kernel
theorem dX2_rowsShown_27 : decode cX2_rowsShown 27 = .ok (.ireturn, 1) := by decide +kernel
theorem dX2_rowsTogether_0 : decode cX2_rowsTogether 0 = .ok (.aload_n 0, 1) := by decide +kernel
theorem dX2_rowsTogether_1 : decode cX2_rowsTogether 1 = .ok (.getfield 23, 3) := by decide +kernel
theorem dX2_rowsTogether_4 : decode cX2_rowsTogether 4 = .ok (.ireturn, 1) := by decide +kernel
theorem dX2_joinMore_0 : decode cX2_joinMore 0 = .ok (.iconst 0, 1) := by decide +kernel
theorem dX2_joinMore_1 : decode cX2_joinMore 1 = .ok (.istore_n 1, 1) := by decide +kernel
theorem dX2_joinMore_2 : decode cX2_joinMore 2 = .ok (.iload_n 1, 1) := by decide +kernel
theorem dX2_joinMore_3 : decode cX2_joinMore 3 = .ok (.bipush 10, 2) := by decide +kernel
theorem dX2_joinMore_5 : decode cX2_joinMore 5 = .ok (.if_icmp .ge 52, 3) := by decide +kernel
theorem dX2_joinMore_8 : decode cX2_joinMore 8 = .ok (.aload_n 0, 1) := by decide +kernel
theorem dX2_joinMore_9 : decode cX2_joinMore 9 = .ok (.getfield 23, 3) := by decide +kernel
theorem dX2_joinMore_12 : decode cX2_joinMore 12 = .ok (.aload_n 0, 1) := by decide +kernel
theorem dX2_joinMore_13 : decode cX2_joinMore 13 = .ok (.getfield 19, 3) := by decide +kernel
theorem dX2_joinMore_16 : decode cX2_joinMore 16 = .ok (.if_icmp .ge 41, 3) := by decide +kernel
theorem dX2_joinMore_19 : decode cX2_joinMore 19 = .ok (.aload_n 0, 1) := by decide +kernel
theorem dX2_joinMore_20 : decode cX2_joinMore 20 = .ok (.invokevirtual 39, 3) := by decide +kernel
theorem dX2_joinMore_23 : decode cX2_joinMore 23 = .ok (.istore_n 2, 1) := by decide +kernel
theorem dX2_joinMore_24 : decode cX2_joinMore 24 = .ok (.iload_n 2, 1) := by decide +kernel
theorem dX2_joinMore_25 : decode cX2_joinMore 25 = .ok (.ifCond .ge 4, 3) := by decide +kernel
theorem dX2_joinMore_28 : decode cX2_joinMore 28 = .ok (.return_, 1) := by decide +kernel
theorem dX2_joinMore_29 : decode cX2_joinMore 29 = .ok (.aload_n 0, 1) := by decide +kernel
theorem dX2_joinMore_30 : decode cX2_joinMore 30 = .ok (.getfield 15, 3) := by decide +kernel
theorem dX2_joinMore_33 : decode cX2_joinMore 33 = .ok (.iload_n 2, 1) := by decide +kernel
theorem dX2_joinMore_34 : decode cX2_joinMore 34 = .ok (.iconst 1, 1) := by decide +kernel
theorem dX2_joinMore_35 : decode cX2_joinMore 35 = .ok (.bastore, 1) := by decide +kernel
theorem dX2_joinMore_36 : decode cX2_joinMore 36 = .ok (.aload_n 0, 1) := by decide +kernel
theorem dX2_joinMore_37 : decode cX2_joinMore 37 = .ok (.dup, 1) := by decide +kernel
theorem dX2_joinMore_38 : decode cX2_joinMore 38 = .ok (.getfield 23, 3) := by decide +kernel
theorem dX2_joinMore_41 : decode cX2_joinMore 41 = .ok (.aload_n 0, 1) := by decide +kernel
theorem dX2_joinMore_42 : decode cX2_joinMore 42 = .ok (.getfield 9, 3) := by decide +kernel
theorem dX2_joinMore_45 : decode cX2_joinMore 45 = .ok (.iload_n 2, 1) := by decide +kernel
theorem dX2_joinMore_46 : decode cX2_joinMore 46 = .ok (.iaload, 1) := by decide +kernel
theorem dX2_joinMore_47 : decode cX2_joinMore 47 = .ok (.iadd, 1) := by decide +kernel
theorem dX2_joinMore_48 : decode cX2_joinMore 48 = .ok (.putfield 23, 3) := by decide +kernel
theorem dX2_joinMore_51 : decode cX2_joinMore 51 = .ok (.iinc 1 1, 3) := by decide +kernel
theorem dX2_joinMore_54 : decode cX2_joinMore 54 = .ok (.goto (-52), 3) := by decide +kernel
theorem dX2_joinMore_57 : decode cX2_joinMore 57 = .ok (.return_, 1) := by decide +kernel
theorem dX2_areaOfFewest_0 : decode cX2_areaOfFewest 0 = .ok (.iconst (-1), 1) := by decide +kernel
theorem dX2_areaOfFewest_1 : decode cX2_areaOfFewest 1 = .ok (.istore_n 1, 1) := by decide +kernel
theorem dX2_areaOfFewest_2 : decode cX2_areaOfFewest 2 = .ok (.iconst 0, 1) := by decide +kernel
theorem dX2_areaOfFewest_3 : decode cX2_areaOfFewest 3 = .ok (.istore_n 2, 1) := by decide +kernel
theorem dX2_areaOfFewest_4 : decode cX2_areaOfFewest 4 = .ok (.iload_n 2, 1) := by decide +kernel
theorem dX2_areaOfFewest_5 : decode cX2_areaOfFewest 5 = .ok (.bipush 10, 2) := by decide +kernel
theorem dX2_areaOfFewest_7 : decode cX2_areaOfFewest 7 = .ok (.if_icmp .ge 58, 3) := by decide +kernel
theorem dX2_areaOfFewest_10 : decode cX2_areaOfFewest 10 = .ok (.aload_n 0, 1) := by decide +kernel
theorem dX2_areaOfFewest_11 : decode cX2_areaOfFewest 11 = .ok (.getfield 15, 3) := by decide +kernel
theorem dX2_areaOfFewest_14 : decode cX2_areaOfFewest 14 = .ok (.iload_n 2, 1) := by decide +kernel
theorem dX2_areaOfFewest_15 : decode cX2_areaOfFewest 15 = .ok (.baload, 1) := by decide +kernel
theorem dX2_areaOfFewest_16 : decode cX2_areaOfFewest 16 = .ok (.ifCond .ne 16, 3) := by decide +kernel
theorem dX2_areaOfFewest_19 : decode cX2_areaOfFewest 19 = .ok (.aload_n 0, 1) := by decide +kernel
theorem dX2_areaOfFewest_20 : decode cX2_areaOfFewest 20 = .ok (.getfield 9, 3) := by decide +kernel
theorem dX2_areaOfFewest_23 : decode cX2_areaOfFewest 23 = .ok (.iload_n 2, 1) := by decide +kernel
theorem dX2_areaOfFewest_24 : decode cX2_areaOfFewest 24 = .ok (.iaload, 1) := by decide +kernel
theorem dX2_areaOfFewest_25 : decode cX2_areaOfFewest 25 = .ok (.ifCond .le 7, 3) := by decide +kernel
theorem dX2_areaOfFewest_28 : decode cX2_areaOfFewest 28 = .ok (.iconst 1, 1) := by decide +kernel
theorem dX2_areaOfFewest_29 : decode cX2_areaOfFewest 29 = .ok (.goto 4, 3) := by decide +kernel
theorem dX2_areaOfFewest_32 : decode cX2_areaOfFewest 32 = .ok (.iconst 0, 1) := by decide +kernel
theorem dX2_areaOfFewest_33 : decode cX2_areaOfFewest 33 = .ok (.istore_n 3, 1) := by decide +kernel
theorem dX2_areaOfFewest_34 : decode cX2_areaOfFewest 34 = .ok (.iload_n 3, 1) := by decide +kernel
theorem dX2_areaOfFewest_35 : decode cX2_areaOfFewest 35 = .ok (.ifCond .eq 24, 3) := by decide +kernel
theorem dX2_areaOfFewest_38 : decode cX2_areaOfFewest 38 = .ok (.iload_n 1, 1) := by decide +kernel
theorem dX2_areaOfFewest_39 : decode cX2_areaOfFewest 39 = .ok (.ifCond .lt 18, 3) := by decide +kernel
theorem dX2_areaOfFewest_42 : decode cX2_areaOfFewest 42 = .ok (.aload_n 0, 1) := by decide +kernel
theorem dX2_areaOfFewest_43 : decode cX2_areaOfFewest 43 = .ok (.getfield 9, 3) := by decide +kernel
theorem dX2_areaOfFewest_46 : decode cX2_areaOfFewest 46 = .ok (.iload_n 2, 1) := by decide +kernel
theorem dX2_areaOfFewest_47 : decode cX2_areaOfFewest 47 = .ok (.iaload, 1) := by decide +kernel
theorem dX2_areaOfFewest_48 : decode cX2_areaOfFewest 48 = .ok (.aload_n 0, 1) := by decide +kernel
theorem dX2_areaOfFewest_49 : decode cX2_areaOfFewest 49 = .ok (.getfield 9, 3) := by decide +kernel
theorem dX2_areaOfFewest_52 : decode cX2_areaOfFewest 52 = .ok (.iload_n 1, 1) := by decide +kernel
theorem dX2_areaOfFewest_53 : decode cX2_areaOfFewest 53 = .ok (.iaload, 1) := by decide +kernel
theorem dX2_areaOfFewest_54 : decode cX2_areaOfFewest 54 = .ok (.if_icmp .ge 5, 3) := by decide +kernel
theorem dX2_areaOfFewest_57 : decode cX2_areaOfFewest 57 = .ok (.iload_n 2, 1) := by decide +kernel
theorem dX2_areaOfFewest_58 : decode cX2_areaOfFewest 58 = .ok (.istore_n 1, 1) := by decide +kernel
theorem dX2_areaOfFewest_59 : decode cX2_areaOfFewest 59 = .ok (.iinc 2 1, 3) := by decide +kernel
theorem dX2_areaOfFewest_62 : decode cX2_areaOfFewest 62 = .ok (.goto (-58), 3) := by decide +kernel
theorem dX2_areaOfFewest_65 : decode cX2_areaOfFewest 65 = .ok (.iload_n 1, 1) := by decide +kernel
theorem dX2_areaOfFewest_66 : decode cX2_areaOfFewest 66 = .ok (.ireturn, 1) := by decide +kernel
theorem dX3_init_0 : decode cX3_init 0 = .ok (.aload_n 0, 1) := by decide +kernel
theorem dX3_init_1 : decode cX3_init 1 = .ok (.invokespecial 3, 3) := by decide +kernel
theorem dX3_init_4 : decode cX3_init 4 = .ok (.aload_n 0, 1) := by decide +kernel
theorem dX3_init_5 : decode cX3_init 5 = .ok (.bipush 6, 2) := by decide +kernel
theorem dX3_init_7 : decode cX3_init 7 = .ok (.newarray .int, 2) := by decide +kernel
theorem dX3_init_9 : decode cX3_init 9 = .ok (.putfield 9, 3) := by decide +kernel
theorem dX3_init_12 : decode cX3_init 12 = .ok (.return_, 1) := by decide +kernel
theorem dX3_start_0 : decode cX3_start 0 = .ok (.aload_n 0, 1) := by decide +kernel
theorem dX3_start_1 : decode cX3_start 1 = .ok (.iload_n 1, 1) := by decide +kernel
theorem dX3_start_2 : decode cX3_start 2 = .ok (.bipush 6, 2) := by decide +kernel
theorem dX3_start_4 : decode cX3_start 4 = .ok (.invokestatic 15, 3) := by decide +kernel
theorem dX3_start_7 : decode cX3_start 7 = .ok (.putfield 21, 3) := by decide +kernel
theorem dX3_start_10 : decode cX3_start 10 = .ok (.return_, 1) := by decide +kernel
theorem dX3_setCount_0 : decode cX3_setCount 0 = .ok (.iload_n 1, 1) := by decide +kernel
theorem dX3_setCount_1 : decode cX3_setCount 1 = .ok (.ifCond .lt 18, 3) := by decide +kernel
theorem dX3_setCount_4 : decode cX3_setCount 4 = .ok (.iload_n 1, 1) := by decide +kernel
theorem dX3_setCount_5 : decode cX3_setCount 5 = .ok (.aload_n 0, 1) := by decide +kernel
theorem dX3_setCount_6 : decode cX3_setCount 6 = .ok (.getfield 21, 3) := by decide +kernel
theorem dX3_setCount_9 : decode cX3_setCount 9 = .ok (.if_icmp .ge 10, 3) := by decide +kernel
theorem dX3_setCount_12 : decode cX3_setCount 12 = .ok (.aload_n 0, 1) := by decide +kernel
theorem dX3_setCount_13 : decode cX3_setCount 13 = .ok (.getfield 9, 3) := by decide +kernel
theorem dX3_setCount_16 : decode cX3_setCount 16 = .ok (.iload_n 1, 1) := by decide +kernel
theorem dX3_setCount_17 : decode cX3_setCount 17 = .ok (.iload_n 2, 1) := by decide +kernel
theorem dX3_setCount_18 : decode cX3_setCount 18 = .ok (.iastore, 1) := by decide +kernel
theorem dX3_setCount_19 : decode cX3_setCount 19 = .ok (.return_, 1) := by decide +kernel
theorem dX3_sum_0 : decode cX3_sum 0 = .ok (.iconst 0, 1) := by decide +kernel
theorem dX3_sum_1 : decode cX3_sum 1 = .ok (.istore_n 1, 1) := by decide +kernel
theorem dX3_sum_2 : decode cX3_sum 2 = .ok (.iconst 0, 1) := by decide +kernel
theorem dX3_sum_3 : decode cX3_sum 3 = .ok (.istore_n 2, 1) := by decide +kernel
theorem dX3_sum_4 : decode cX3_sum 4 = .ok (.iconst 0, 1) := by decide +kernel
theorem dX3_sum_5 : decode cX3_sum 5 = .ok (.istore_n 3, 1) := by decide +kernel
theorem dX3_sum_6 : decode cX3_sum 6 = .ok (.iload_n 3, 1) := by decide +kernel
theorem dX3_sum_7 : decode cX3_sum 7 = .ok (.aload_n 0, 1) := by decide +kernel
theorem dX3_sum_8 : decode cX3_sum 8 = .ok (.getfield 21, 3) := by decide +kernel
theorem dX3_sum_11 : decode cX3_sum 11 = .ok (.if_icmp .ge 31, 3) := by decide +kernel
theorem dX3_sum_14 : decode cX3_sum 14 = .ok (.iload_n 1, 1) := by decide +kernel
theorem dX3_sum_15 : decode cX3_sum 15 = .ok (.aload_n 0, 1) := by decide +kernel
theorem dX3_sum_16 : decode cX3_sum 16 = .ok (.getfield 9, 3) := by decide +kernel
theorem dX3_sum_19 : decode cX3_sum 19 = .ok (.aload_n 0, 1) := by decide +kernel
theorem dX3_sum_20 : decode cX3_sum 20 = .ok (.getfield 21, 3) := by decide +kernel
theorem dX3_sum_23 : decode cX3_sum 23 = .ok (.iload_n 3, 1) := by decide +kernel
theorem dX3_sum_24 : decode cX3_sum 24 = .ok (.iload_n 2, 1) := by decide +kernel
theorem dX3_sum_25 : decode cX3_sum 25 = .ok (.invokestatic 25, 3) := by decide +kernel
theorem dX3_sum_28 : decode cX3_sum 28 = .ok (.iadd, 1) := by decide +kernel
theorem dX3_sum_29 : decode cX3_sum 29 = .ok (.istore_n 1, 1) := by decide +kernel
theorem dX3_sum_30 : decode cX3_sum 30 = .ok (.iload_n 2, 1) := by decide +kernel
theorem dX3_sum_31 : decode cX3_sum 31 = .ok (.iconst 1, 1) := by decide +kernel
theorem dX3_sum_32 : decode cX3_sum 32 = .ok (.iload_n 3, 1) := by decide +kernel
theorem dX3_sum_33 : decode cX3_sum 33 = .ok (.ishl, 1) := by decide +kernel
theorem dX3_sum_34 : decode cX3_sum 34 = .ok (.ior, 1) := by decide +kernel
theorem dX3_sum_35 : decode cX3_sum 35 = .ok (.istore_n 2, 1) := by decide +kernel
theorem dX3_sum_36 : decode cX3_sum 36 = .ok (.iinc 3 1, 3) := by decide +kernel
theorem dX3_sum_39 : decode cX3_sum 39 = .ok (.goto (-33), 3) := by decide +kernel
theorem dX3_sum_42 : decode cX3_sum 42 = .ok (.iload_n 1, 1) := by decide +kernel
theorem dX3_sum_43 : decode cX3_sum 43 = .ok (.ireturn, 1) := by decide +kernel
theorem dX3_orders_0 : decode cX3_orders 0 = .ok (.iconst 1, 1) := by decide +kernel
theorem dX3_orders_1 : decode cX3_orders 1 = .ok (.istore_n 1, 1) := by decide +kernel
theorem dX3_orders_2 : decode cX3_orders 2 = .ok (.iconst 2, 1) := by decide +kernel
theorem dX3_orders_3 : decode cX3_orders 3 = .ok (.istore_n 2, 1) := by decide +kernel
theorem dX3_orders_4 : decode cX3_orders 4 = .ok (.iload_n 2, 1) := by decide +kernel
theorem dX3_orders_5 : decode cX3_orders 5 = .ok (.aload_n 0, 1) := by decide +kernel
theorem dX3_orders_6 : decode cX3_orders 6 = .ok (.getfield 21, 3) := by decide +kernel
theorem dX3_orders_9 : decode cX3_orders 9 = .ok (.if_icmp .gt 13, 3) := by decide +kernel
theorem dX3_orders_12 : decode cX3_orders 12 = .ok (.iload_n 1, 1) := by decide +kernel
theorem dX3_orders_13 : decode cX3_orders 13 = .ok (.iload_n 2, 1) := by decide +kernel
theorem dX3_orders_14 : decode cX3_orders 14 = .ok (.imul, 1) := by decide +kernel
theorem dX3_orders_15 : decode cX3_orders 15 = .ok (.istore_n 1, 1) := by decide +kernel
theorem dX3_orders_16 : decode cX3_orders 16 = .ok (.iinc 2 1, 3) := by decide +kernel
theorem dX3_orders_19 : decode cX3_orders 19 = .ok (.goto (-15), 3) := by decide +kernel
theorem dX3_orders_22 : decode cX3_orders 22 = .ok (.iload_n 1, 1) := by decide +kernel
theorem dX3_orders_23 : decode cX3_orders 23 = .ok (.ireturn, 1) := by decide +kernel
theorem dX3_ordersNotBelow_0 : decode cX3_ordersNotBelow 0 = .ok (.aload_n 0, 1) := by decide +kernel
theorem dX3_ordersNotBelow_1 : decode cX3_ordersNotBelow 1 = .ok (.getfield 9, 3) := by decide +kernel
theorem dX3_ordersNotBelow_4 : decode cX3_ordersNotBelow 4 = .ok (.aload_n 0, 1) := by decide +kernel
theorem dX3_ordersNotBelow_5 : decode cX3_ordersNotBelow 5 = .ok (.getfield 21, 3) := by decide +kernel
theorem dX3_ordersNotBelow_8 : decode cX3_ordersNotBelow 8 = .ok (.iconst 0, 1) := by decide +kernel
theorem dX3_ordersNotBelow_9 : decode cX3_ordersNotBelow 9 = .ok (.aload_n 0, 1) := by decide +kernel
theorem dX3_ordersNotBelow_10 : decode cX3_ordersNotBelow 10 = .ok (.getfield 21, 3) := by decide +kernel
theorem dX3_ordersNotBelow_13 : decode cX3_ordersNotBelow 13 = .ok (.iconst 0, 1) := by decide +kernel
theorem dX3_ordersNotBelow_14 : decode cX3_ordersNotBelow 14 = .ok (.iload_n 1, 1) := by decide +kernel
theorem dX3_ordersNotBelow_15 : decode cX3_ordersNotBelow 15 = .ok (.invokestatic 29, 3) := by decide +kernel
theorem dX3_ordersNotBelow_18 : decode cX3_ordersNotBelow 18 = .ok (.ireturn, 1) := by decide +kernel
theorem dX3_ordersBehind_0 : decode cX3_ordersBehind 0 = .ok (.iload_n 3, 1) := by decide +kernel
theorem dX3_ordersBehind_1 : decode cX3_ordersBehind 1 = .ok (.ifCond .gt 16, 3) := by decide +kernel
theorem dX3_ordersBehind_4 : decode cX3_ordersBehind 4 = .ok (.iload 4, 2) := by decide +kernel
theorem dX3_ordersBehind_6 : decode cX3_ordersBehind 6 = .ok (.iload 5, 2) := by decide +kernel
theorem dX3_ordersBehind_8 : decode cX3_ordersBehind 8 = .ok (.if_icmp .lt 7, 3) := by decide +kernel
theorem dX3_ordersBehind_11 : decode cX3_ordersBehind 11 = .ok (.iconst 1, 1) := by decide +kernel
theorem dX3_ordersBehind_12 : decode cX3_ordersBehind 12 = .ok (.goto 4, 3) := by decide +kernel
theorem dX3_ordersBehind_15 : decode cX3_ordersBehind 15 = .ok (.iconst 0, 1) := by decide +kernel
theorem dX3_ordersBehind_16 : decode cX3_ordersBehind 16 = .ok (.ireturn, 1) := by decide +kernel
theorem dX3_ordersBehind_17 : decode cX3_ordersBehind 17 = .ok (.iconst 0, 1) := by decide +kernel
theorem dX3_ordersBehind_18 : decode cX3_ordersBehind 18 = .ok (.istore 6, 2) := by decide +kernel
theorem dX3_ordersBehind_20 : decode cX3_ordersBehind 20 = .ok (.iconst 0, 1) := by decide +kernel
theorem dX3_ordersBehind_21 : decode cX3_ordersBehind 21 = .ok (.istore 7, 2) := by decide +kernel
theorem dX3_ordersBehind_23 : decode cX3_ordersBehind 23 = .ok (.iload 7, 2) := by decide +kernel
theorem dX3_ordersBehind_25 : decode cX3_ordersBehind 25 = .ok (.iload_n 1, 1) := by decide +kernel
theorem dX3_ordersBehind_26 : decode cX3_ordersBehind 26 = .ok (.if_icmp .ge 54, 3) := by decide +kernel
theorem dX3_ordersBehind_29 : decode cX3_ordersBehind 29 = .ok (.iload 7, 2) := by decide +kernel
theorem dX3_ordersBehind_31 : decode cX3_ordersBehind 31 = .ok (.iload_n 2, 1) := by decide +kernel
theorem dX3_ordersBehind_32 : decode cX3_ordersBehind 32 = .ok (.invokestatic 33, 3) := by decide +kernel
theorem dX3_ordersBehind_35 : decode cX3_ordersBehind 35 = .ok (.ifCond .ne 39, 3) := by decide +kernel
theorem dX3_ordersBehind_38 : decode cX3_ordersBehind 38 = .ok (.iload 4, 2) := by decide +kernel
theorem dX3_ordersBehind_40 : decode cX3_ordersBehind 40 = .ok (.aload_n 0, 1) := by decide +kernel
theorem dX3_ordersBehind_41 : decode cX3_ordersBehind 41 = .ok (.iload_n 1, 1) := by decide +kernel
theorem dX3_ordersBehind_42 : decode cX3_ordersBehind 42 = .ok (.iload 7, 2) := by decide +kernel
theorem dX3_ordersBehind_44 : decode cX3_ordersBehind 44 = .ok (.iload_n 2, 1) := by decide +kernel
theorem dX3_ordersBehind_45 : decode cX3_ordersBehind 45 = .ok (.invokestatic 25, 3) := by decide +kernel
theorem dX3_ordersBehind_48 : decode cX3_ordersBehind 48 = .ok (.iadd, 1) := by decide +kernel
theorem dX3_ordersBehind_49 : decode cX3_ordersBehind 49 = .ok (.istore 8, 2) := by decide +kernel
theorem dX3_ordersBehind_51 : decode cX3_ordersBehind 51 = .ok (.iload 6, 2) := by decide +kernel
theorem dX3_ordersBehind_53 : decode cX3_ordersBehind 53 = .ok (.aload_n 0, 1) := by decide +kernel
theorem dX3_ordersBehind_54 : decode cX3_ordersBehind 54 = .ok (.iload_n 1, 1) := by decide +kernel
theorem dX3_ordersBehind_55 : decode cX3_ordersBehind 55 = .ok (.iload_n 2, 1) := by decide +kernel
theorem dX3_ordersBehind_56 : decode cX3_ordersBehind 56 = .ok (.iconst 1, 1) := by decide +kernel
theorem dX3_ordersBehind_57 : decode cX3_ordersBehind 57 = .ok (.iload 7, 2) := by decide +kernel
theorem dX3_ordersBehind_59 : decode cX3_ordersBehind 59 = .ok (.ishl, 1) := by decide +kernel
theorem dX3_ordersBehind_60 : decode cX3_ordersBehind 60 = .ok (.ior, 1) := by decide +kernel
theorem dX3_ordersBehind_61 : decode cX3_ordersBehind 61 = .ok (.iload_n 3, 1) := by decide +kernel
theorem dX3_ordersBehind_62 : decode cX3_ordersBehind 62 = .ok (.iconst 1, 1) := by decide +kernel
theorem dX3_ordersBehind_63 : decode cX3_ordersBehind 63 = .ok (.isub, 1) := by decide +kernel
theorem dX3_ordersBehind_64 : decode cX3_ordersBehind 64 = .ok (.iload 8, 2) := by decide +kernel
theorem dX3_ordersBehind_66 : decode cX3_ordersBehind 66 = .ok (.iload 5, 2) := by decide +kernel
theorem dX3_ordersBehind_68 : decode cX3_ordersBehind 68 = .ok (.invokestatic 29, 3) := by decide +kernel
theorem dX3_ordersBehind_71 : decode cX3_ordersBehind 71 = .ok (.iadd, 1) := by decide +kernel
theorem dX3_ordersBehind_72 : decode cX3_ordersBehind 72 = .ok (.istore 6, 2) := by decide +kernel
theorem dX3_ordersBehind_74 : decode cX3_ordersBehind 74 = .ok (.iinc 7 1, 3) := by decide +kernel
theorem dX3_ordersBehind_77 : decode cX3_ordersBehind 77 = .ok (.goto (-54), 3) := by decide +kernel
theorem dX3_ordersBehind_80 : decode cX3_ordersBehind 80 = .ok (.iload 6, 2) := by decide +kernel
theorem dX3_ordersBehind_82 : decode cX3_ordersBehind 82 = .ok (.ireturn, 1) := by decide +kernel
theorem dX3_gain_0 : decode cX3_gain 0 = .ok (.iconst 0, 1) := by decide +kernel
theorem dX3_gain_1 : decode cX3_gain 1 = .ok (.istore 4, 2) := by decide +kernel
theorem dX3_gain_3 : decode cX3_gain 3 = .ok (.iconst 0, 1) := by decide +kernel
theorem dX3_gain_4 : decode cX3_gain 4 = .ok (.istore 5, 2) := by decide +kernel
theorem dX3_gain_6 : decode cX3_gain 6 = .ok (.iload 5, 2) := by decide +kernel
theorem dX3_gain_8 : decode cX3_gain 8 = .ok (.iload_n 1, 1) := by decide +kernel
theorem dX3_gain_9 : decode cX3_gain 9 = .ok (.if_icmp .ge 33, 3) := by decide +kernel
theorem dX3_gain_12 : decode cX3_gain 12 = .ok (.iload 5, 2) := by decide +kernel
theorem dX3_gain_14 : decode cX3_gain 14 = .ok (.iload_n 3, 1) := by decide +kernel
theorem dX3_gain_15 : decode cX3_gain 15 = .ok (.invokestatic 33, 3) := by decide +kernel
theorem dX3_gain_18 : decode cX3_gain 18 = .ok (.ifCond .eq 18, 3) := by decide +kernel
theorem dX3_gain_21 : decode cX3_gain 21 = .ok (.iload 4, 2) := by decide +kernel
theorem dX3_gain_23 : decode cX3_gain 23 = .ok (.aload_n 0, 1) := by decide +kernel
theorem dX3_gain_24 : decode cX3_gain 24 = .ok (.iload_n 2, 1) := by decide +kernel
theorem dX3_gain_25 : decode cX3_gain 25 = .ok (.iaload, 1) := by decide +kernel
theorem dX3_gain_26 : decode cX3_gain 26 = .ok (.aload_n 0, 1) := by decide +kernel
theorem dX3_gain_27 : decode cX3_gain 27 = .ok (.iload 5, 2) := by decide +kernel
theorem dX3_gain_29 : decode cX3_gain 29 = .ok (.iaload, 1) := by decide +kernel
theorem dX3_gain_30 : decode cX3_gain 30 = .ok (.invokestatic 37, 3) := by decide +kernel
theorem dX3_gain_33 : decode cX3_gain 33 = .ok (.iadd, 1) := by decide +kernel
theorem dX3_gain_34 : decode cX3_gain 34 = .ok (.istore 4, 2) := by decide +kernel
theorem dX3_gain_36 : decode cX3_gain 36 = .ok (.iinc 5 1, 3) := by decide +kernel
theorem dX3_gain_39 : decode cX3_gain 39 = .ok (.goto (-33), 3) := by decide +kernel
theorem dX3_gain_42 : decode cX3_gain 42 = .ok (.iload 4, 2) := by decide +kernel
theorem dX3_gain_44 : decode cX3_gain 44 = .ok (.ireturn, 1) := by decide +kernel
theorem dX3_isTaken_0 : decode cX3_isTaken 0 = .ok (.iload_n 1, 1) := by decide +kernel
theorem dX3_isTaken_1 : decode cX3_isTaken 1 = .ok (.iload_n 0, 1) := by decide +kernel
theorem dX3_isTaken_2 : decode cX3_isTaken 2 = .ok (.ishr, 1) := by decide +kernel
theorem dX3_isTaken_3 : decode cX3_isTaken 3 = .ok (.iconst 1, 1) := by decide +kernel
theorem dX3_isTaken_4 : decode cX3_isTaken 4 = .ok (.iand, 1) := by decide +kernel
theorem dX3_isTaken_5 : decode cX3_isTaken 5 = .ok (.ifCond .eq 7, 3) := by decide +kernel
theorem dX3_isTaken_8 : decode cX3_isTaken 8 = .ok (.iconst 1, 1) := by decide +kernel
theorem dX3_isTaken_9 : decode cX3_isTaken 9 = .ok (.goto 4, 3) := by decide +kernel
theorem dX3_isTaken_12 : decode cX3_isTaken 12 = .ok (.iconst 0, 1) := by decide +kernel
theorem dX3_isTaken_13 : decode cX3_isTaken 13 = .ok (.ireturn, 1) := by decide +kernel
end
section
theorem dX4_init_0 : decode cX4_init 0 = .ok (.aload_n 0, 1) := by decide +kernel
theorem dX4_init_1 : decode cX4_init 1 = .ok (.invokespecial 1, 3) := by decide +kernel
theorem dX4_init_4 : decode cX4_init 4 = .ok (.aload_n 0, 1) := by decide +kernel
theorem dX4_init_5 : decode cX4_init 5 = .ok (.new 7, 3) := by decide +kernel
theorem dX4_init_8 : decode cX4_init 8 = .ok (.dup, 1) := by decide +kernel
theorem dX4_init_9 : decode cX4_init 9 = .ok (.invokespecial 9, 3) := by decide +kernel
theorem dX4_init_12 : decode cX4_init 12 = .ok (.putfield 10, 3) := by decide +kernel
theorem dX4_init_15 : decode cX4_init 15 = .ok (.aload_n 0, 1) := by decide +kernel
theorem dX4_init_16 : decode cX4_init 16 = .ok (.new 16, 3) := by decide +kernel
theorem dX4_init_19 : decode cX4_init 19 = .ok (.dup, 1) := by decide +kernel
theorem dX4_init_20 : decode cX4_init 20 = .ok (.invokespecial 18, 3) := by decide +kernel
theorem dX4_init_23 : decode cX4_init 23 = .ok (.putfield 19, 3) := by decide +kernel
theorem dX4_init_26 : decode cX4_init 26 = .ok (.aload_n 0, 1) := by decide +kernel
theorem dX4_init_27 : decode cX4_init 27 = .ok (.new 23, 3) := by decide +kernel
theorem dX4_init_30 : decode cX4_init 30 = .ok (.dup, 1) := by decide +kernel
theorem dX4_init_31 : decode cX4_init 31 = .ok (.invokespecial 25, 3) := by decide +kernel
theorem dX4_init_34 : decode cX4_init 34 = .ok (.putfield 26, 3) := by decide +kernel
theorem dX4_init_37 : decode cX4_init 37 = .ok (.aload_n 0, 1) := by decide +kernel
theorem dX4_init_38 : decode cX4_init 38 = .ok (.new 30, 3) := by decide +kernel
theorem dX4_init_41 : decode cX4_init 41 = .ok (.dup, 1) := by decide +kernel
theorem dX4_init_42 : decode cX4_init 42 = .ok (.invokespecial 32, 3) := by decide +kernel
theorem dX4_init_45 : decode cX4_init 45 = .ok (.putfield 33, 3) := by decide +kernel
theorem dX4_init_48 : decode cX4_init 48 = .ok (.aload_n 0, 1) := by decide +kernel
theorem dX4_init_49 : decode cX4_init 49 = .ok (.bipush 10, 2) := by decide +kernel
theorem dX4_init_51 : decode cX4_init 51 = .ok (.newarray .int, 2) := by decide +kernel
theorem dX4_init_53 : decode cX4_init 53 = .ok (.putfield 37, 3) := by decide +kernel
theorem dX4_init_56 : decode cX4_init 56 = .ok (.aload_n 0, 1) := by decide +kernel
theorem dX4_init_57 : decode cX4_init 57 = .ok (.iconst 0, 1) := by decide +kernel
theorem dX4_init_58 : decode cX4_init 58 = .ok (.putfield 41, 3) := by decide +kernel
theorem dX4_init_61 : decode cX4_init 61 = .ok (.aload_n 0, 1) := by decide +kernel
theorem dX4_init_62 : decode cX4_init 62 = .ok (.sipush 9999, 3) := by decide +kernel
theorem dX4_init_65 : decode cX4_init 65 = .ok (.putfield 45, 3) := by decide +kernel
theorem dX4_init_68 : decode cX4_init 68 = .ok (.aload_n 0, 1) := by decide +kernel
theorem dX4_init_69 : decode cX4_init 69 = .ok (.iconst (-1), 1) := by decide +kernel
theorem dX4_init_70 : decode cX4_init 70 = .ok (.putfield 48, 3) := by decide +kernel
theorem dX4_init_73 : decode cX4_init 73 = .ok (.aload_n 0, 1) := by decide +kernel
theorem dX4_init_74 : decode cX4_init 74 = .ok (.iconst (-1), 1) := by decide +kernel
theorem dX4_init_75 : decode cX4_init 75 = .ok (.putfield 51, 3) := by decide +kernel
theorem dX4_init_78 : decode cX4_init 78 = .ok (.return_, 1) := by decide +kernel
theorem dX4_row_0 : decode cX4_row 0 = .ok (.iload_n 3, 1) := by decide +kernel
theorem dX4_row_1 : decode cX4_row 1 = .ok (.iconst 5, 1) := by decide +kernel
theorem dX4_row_2 : decode cX4_row 2 = .ok (.invokestatic 54, 3) := by decide +kernel
theorem dX4_row_5 : decode cX4_row 5 = .ok (.iload 4, 2) := by decide +kernel
theorem dX4_row_7 : decode cX4_row 7 = .ok (.bipush 10, 2) := by decide +kernel
theorem dX4_row_9 : decode cX4_row 9 = .ok (.invokestatic 54, 3) := by decide +kernel
theorem dX4_row_12 : decode cX4_row 12 = .ok (.iload 5, 2) := by decide +kernel
theorem dX4_row_14 : decode cX4_row 14 = .ok (.bipush 6, 2) := by decide +kernel
theorem dX4_row_16 : decode cX4_row 16 = .ok (.invokestatic 54, 3) := by decide +kernel
theorem dX4_row_19 : decode cX4_row 19 = .ok (.iload_n 1, 1) := by decide +kernel
theorem dX4_row_20 : decode cX4_row 20 = .ok (.iconst 0, 1) := by decide +kernel
theorem dX4_row_21 : decode cX4_row 21 = .ok (.sipush 9999, 3) := by decide +kernel
theorem dX4_row_24 : decode cX4_row 24 = .ok (.invokestatic 58, 3) := by decide +kernel
theorem dX4_row_27 : decode cX4_row 27 = .ok (.iload_n 2, 1) := by decide +kernel
theorem dX4_row_28 : decode cX4_row 28 = .ok (.iconst 0, 1) := by decide +kernel
theorem dX4_row_29 : decode cX4_row 29 = .ok (.bipush 23, 2) := by decide +kernel
theorem dX4_row_31 : decode cX4_row 31 = .ok (.invokestatic 58, 3) := by decide +kernel
theorem dX4_row_34 : decode cX4_row 34 = .ok (.iload 6, 2) := by decide +kernel
theorem dX4_row_36 : decode cX4_row 36 = .ok (.iconst 0, 1) := by decide +kernel
theorem dX4_row_37 : decode cX4_row 37 = .ok (.iconst 3, 1) := by decide +kernel
theorem dX4_row_38 : decode cX4_row 38 = .ok (.invokestatic 58, 3) := by decide +kernel
theorem dX4_row_41 : decode cX4_row 41 = .ok (.aload_n 0, 1) := by decide +kernel
theorem dX4_row_42 : decode cX4_row 42 = .ok (.getfield 19, 3) := by decide +kernel
theorem dX4_row_45 : decode cX4_row 45 = .ok (.invokevirtual 62, 3) := by decide +kernel
theorem dX4_row_48 : decode cX4_row 48 = .ok (.ifCond .eq 13, 3) := by decide +kernel
theorem dX4_row_51 : decode cX4_row 51 = .ok (.new 66, 3) := by decide +kernel
theorem dX4_row_54 : decode cX4_row 54 = .ok (.dup, 1) := by decide +kernel
theorem dX4_row_55 : decode cX4_row 55 = .ok (.ldc 68, 2) := by decide +kernel
theorem dX4_row_57 : decode cX4_row 57 = .ok (.invokespecial 70, 3) := by decide +kernel
theorem dX4_row_60 : decode cX4_row 60 = .ok (.athrow, 1) := by decide +kernel
theorem dX4_row_61 : decode cX4_row 61 = .ok (.aload_n 0, 1) := by decide +kernel
theorem dX4_row_62 : decode cX4_row 62 = .ok (.getfield 19, 3) := by decide +kernel
theorem dX4_row_65 : decode cX4_row 65 = .ok (.iload_n 1, 1) := by decide +kernel
theorem dX4_row_66 : decode cX4_row 66 = .ok (.iload_n 2, 1) := by decide +kernel
theorem dX4_row_67 : decode cX4_row 67 = .ok (.iload_n 3, 1) := by decide +kernel
theorem dX4_row_68 : decode cX4_row 68 = .ok (.iload 4, 2) := by decide +kernel
theorem dX4_row_70 : decode cX4_row 70 = .ok (.iload 5, 2) := by decide +kernel
theorem dX4_row_72 : decode cX4_row 72 = .ok (.iload 6, 2) := by decide +kernel
theorem dX4_row_74 : decode cX4_row 74 = .ok (.invokevirtual 73, 3) := by decide +kernel
theorem dX4_row_77 : decode cX4_row 77 = .ok (.ireturn, 1) := by decide +kernel
theorem dX4_values_0 : decode cX4_values 0 = .ok (.iload_n 1, 1) := by decide +kernel
theorem dX4_values_1 : decode cX4_values 1 = .ok (.aload_n 0, 1) := by decide +kernel
theorem dX4_values_2 : decode cX4_values 2 = .ok (.getfield 19, 3) := by decide +kernel
theorem dX4_values_5 : decode cX4_values 5 = .ok (.invokevirtual 77, 3) := by decide +kernel
theorem dX4_values_8 : decode cX4_values 8 = .ok (.invokestatic 54, 3) := by decide +kernel
theorem dX4_values_11 : decode cX4_values 11 = .ok (.iload_n 2, 1) := by decide +kernel
theorem dX4_values_12 : decode cX4_values 12 = .ok (.iconst (-1), 1) := by decide +kernel
theorem dX4_values_13 : decode cX4_values 13 = .ok (.sipush 9999, 3) := by decide +kernel
theorem dX4_values_16 : decode cX4_values 16 = .ok (.invokestatic 58, 3) := by decide +kernel
theorem dX4_values_19 : decode cX4_values 19 = .ok (.iload_n 3, 1) := by decide +kernel
theorem dX4_values_20 : decode cX4_values 20 = .ok (.iconst (-1), 1) := by decide +kernel
theorem dX4_values_21 : decode cX4_values 21 = .ok (.sipush 9999, 3) := by decide +kernel
theorem dX4_values_24 : decode cX4_values 24 = .ok (.invokestatic 58, 3) := by decide +kernel
theorem dX4_values_27 : decode cX4_values 27 = .ok (.aload_n 0, 1) := by decide +kernel
theorem dX4_values_28 : decode cX4_values 28 = .ok (.getfield 19, 3) := by decide +kernel
theorem dX4_values_31 : decode cX4_values 31 = .ok (.iload_n 1, 1) := by decide +kernel
theorem dX4_values_32 : decode cX4_values 32 = .ok (.iload_n 2, 1) := by decide +kernel
theorem dX4_values_33 : decode cX4_values 33 = .ok (.iload_n 3, 1) := by decide +kernel
theorem dX4_values_34 : decode cX4_values 34 = .ok (.invokevirtual 81, 3) := by decide +kernel
theorem dX4_values_37 : decode cX4_values 37 = .ok (.return_, 1) := by decide +kernel
theorem dX4_define_0 : decode cX4_define 0 = .ok (.iload_n 1, 1) := by decide +kernel
theorem dX4_define_1 : decode cX4_define 1 = .ok (.iconst 0, 1) := by decide +kernel
theorem dX4_define_2 : decode cX4_define 2 = .ok (.sipush 9999, 3) := by decide +kernel
theorem dX4_define_5 : decode cX4_define 5 = .ok (.invokestatic 58, 3) := by decide +kernel
theorem dX4_define_8 : decode cX4_define 8 = .ok (.iload_n 2, 1) := by decide +kernel
theorem dX4_define_9 : decode cX4_define 9 = .ok (.iconst 0, 1) := by decide +kernel
theorem dX4_define_10 : decode cX4_define 10 = .ok (.sipush 20000, 3) := by decide +kernel
theorem dX4_define_13 : decode cX4_define 13 = .ok (.invokestatic 58, 3) := by decide +kernel
theorem dX4_define_16 : decode cX4_define 16 = .ok (.aload_n 0, 1) := by decide +kernel
theorem dX4_define_17 : decode cX4_define 17 = .ok (.getfield 10, 3) := by decide +kernel
theorem dX4_define_20 : decode cX4_define 20 = .ok (.invokevirtual 84, 3) := by decide +kernel
theorem dX4_define_23 : decode cX4_define 23 = .ok (.ifCond .eq 13, 3) := by decide +kernel
theorem dX4_define_26 : decode cX4_define 26 = .ok (.new 66, 3) := by decide +kernel
theorem dX4_define_29 : decode cX4_define 29 = .ok (.dup, 1) := by decide +kernel
theorem dX4_define_30 : decode cX4_define 30 = .ok (.ldc 85, 2) := by decide +kernel
theorem dX4_define_32 : decode cX4_define 32 = .ok (.invokespecial 70, 3) := by decide +kernel
theorem dX4_define_35 : decode cX4_define 35 = .ok (.athrow, 1) := by decide +kernel
theorem dX4_define_36 : decode cX4_define 36 = .ok (.aload_n 0, 1) := by decide +kernel
theorem dX4_define_37 : decode cX4_define 37 = .ok (.getfield 10, 3) := by decide +kernel
theorem dX4_define_40 : decode cX4_define 40 = .ok (.iload_n 1, 1) := by decide +kernel
theorem dX4_define_41 : decode cX4_define 41 = .ok (.iload_n 2, 1) := by decide +kernel
theorem dX4_define_42 : decode cX4_define 42 = .ok (.invokevirtual 87, 3) := by decide +kernel
theorem dX4_define_45 : decode cX4_define 45 = .ok (.ireturn, 1) := by decide +kernel
theorem dX4_ask_0 : decode cX4_ask 0 = .ok (.iload_n 3, 1) := by decide +kernel
theorem dX4_ask_1 : decode cX4_ask 1 = .ok (.iconst (-1), 1) := by decide +kernel
theorem dX4_ask_2 : decode cX4_ask 2 = .ok (.if_icmp .eq 8, 3) := by decide +kernel
theorem dX4_ask_5 : decode cX4_ask 5 = .ok (.iload_n 3, 1) := by decide +kernel
theorem dX4_ask_6 : decode cX4_ask 6 = .ok (.iconst 5, 1) := by decide +kernel
theorem dX4_ask_7 : decode cX4_ask 7 = .ok (.invokestatic 54, 3) := by decide +kernel
theorem dX4_ask_10 : decode cX4_ask 10 = .ok (.iload 4, 2) := by decide +kernel
theorem dX4_ask_12 : decode cX4_ask 12 = .ok (.iconst (-1), 1) := by decide +kernel
theorem dX4_ask_13 : decode cX4_ask 13 = .ok (.if_icmp .eq 10, 3) := by decide +kernel
theorem dX4_ask_16 : decode cX4_ask 16 = .ok (.iload 4, 2) := by decide +kernel
theorem dX4_ask_18 : decode cX4_ask 18 = .ok (.bipush 10, 2) := by decide +kernel
theorem dX4_ask_20 : decode cX4_ask 20 = .ok (.invokestatic 54, 3) := by decide +kernel
theorem dX4_ask_23 : decode cX4_ask 23 = .ok (.iload_n 1, 1) := by decide +kernel
theorem dX4_ask_24 : decode cX4_ask 24 = .ok (.iload_n 2, 1) := by decide +kernel
theorem dX4_ask_25 : decode cX4_ask 25 = .ok (.invokestatic 90, 3) := by decide +kernel
theorem dX4_ask_28 : decode cX4_ask 28 = .ok (.aload_n 0, 1) := by decide +kernel
theorem dX4_ask_29 : decode cX4_ask 29 = .ok (.iload_n 1, 1) := by decide +kernel
theorem dX4_ask_30 : decode cX4_ask 30 = .ok (.putfield 41, 3) := by decide +kernel
theorem dX4_ask_33 : decode cX4_ask 33 = .ok (.aload_n 0, 1) := by decide +kernel
theorem dX4_ask_34 : decode cX4_ask 34 = .ok (.iload_n 2, 1) := by decide +kernel
theorem dX4_ask_35 : decode cX4_ask 35 = .ok (.putfield 45, 3) := by decide +kernel
theorem dX4_ask_38 : decode cX4_ask 38 = .ok (.aload_n 0, 1) := by decide +kernel
theorem dX4_ask_39 : decode cX4_ask 39 = .ok (.iload_n 3, 1) := by decide +kernel
theorem dX4_ask_40 : decode cX4_ask 40 = .ok (.putfield 48, 3) := by decide +kernel
theorem dX4_ask_43 : decode cX4_ask 43 = .ok (.aload_n 0, 1) := by decide +kernel
theorem dX4_ask_44 : decode cX4_ask 44 = .ok (.iload 4, 2) := by decide +kernel
theorem dX4_ask_46 : decode cX4_ask 46 = .ok (.putfield 51, 3) := by decide +kernel
theorem dX4_ask_49 : decode cX4_ask 49 = .ok (.return_, 1) := by decide +kernel
theorem dX4_count_0 : decode cX4_count 0 = .ok (.iload_n 1, 1) := by decide +kernel
theorem dX4_count_1 : decode cX4_count 1 = .ok (.iconst 5, 1) := by decide +kernel
theorem dX4_count_2 : decode cX4_count 2 = .ok (.invokestatic 54, 3) := by decide +kernel
theorem dX4_count_5 : decode cX4_count 5 = .ok (.aload_n 0, 1) := by decide +kernel
theorem dX4_count_6 : decode cX4_count 6 = .ok (.iload_n 1, 1) := by decide +kernel
theorem dX4_count_7 : decode cX4_count 7 = .ok (.aload_n 0, 1) := by decide +kernel
theorem dX4_count_8 : decode cX4_count 8 = .ok (.getfield 41, 3) := by decide +kernel
theorem dX4_count_11 : decode cX4_count 11 = .ok (.aload_n 0, 1) := by decide +kernel
theorem dX4_count_12 : decode cX4_count 12 = .ok (.getfield 45, 3) := by decide +kernel
theorem dX4_count_15 : decode cX4_count 15 = .ok (.invokevirtual 93, 3) := by decide +kernel
theorem dX4_count_18 : decode cX4_count 18 = .ok (.ireturn, 1) := by decide +kernel
theorem dX4_hour_0 : decode cX4_hour 0 = .ok (.iload_n 1, 1) := by decide +kernel
theorem dX4_hour_1 : decode cX4_hour 1 = .ok (.iconst 0, 1) := by decide +kernel
theorem dX4_hour_2 : decode cX4_hour 2 = .ok (.bipush 23, 2) := by decide +kernel
theorem dX4_hour_4 : decode cX4_hour 4 = .ok (.invokestatic 58, 3) := by decide +kernel
theorem dX4_hour_7 : decode cX4_hour 7 = .ok (.aload_n 0, 1) := by decide +kernel
theorem dX4_hour_8 : decode cX4_hour 8 = .ok (.getfield 19, 3) := by decide +kernel
theorem dX4_hour_11 : decode cX4_hour 11 = .ok (.iload_n 1, 1) := by decide +kernel
theorem dX4_hour_12 : decode cX4_hour 12 = .ok (.aload_n 0, 1) := by decide +kernel
theorem dX4_hour_13 : decode cX4_hour 13 = .ok (.getfield 41, 3) := by decide +kernel
theorem dX4_hour_16 : decode cX4_hour 16 = .ok (.aload_n 0, 1) := by decide +kernel
theorem dX4_hour_17 : decode cX4_hour 17 = .ok (.getfield 45, 3) := by decide +kernel
theorem dX4_hour_20 : decode cX4_hour 20 = .ok (.aload_n 0, 1) := by decide +kernel
theorem dX4_hour_21 : decode cX4_hour 21 = .ok (.getfield 48, 3) := by decide +kernel
theorem dX4_hour_24 : decode cX4_hour 24 = .ok (.aload_n 0, 1) := by decide +kernel
theorem dX4_hour_25 : decode cX4_hour 25 = .ok (.getfield 51, 3) := by decide +kernel
theorem dX4_hour_28 : decode cX4_hour 28 = .ok (.invokevirtual 97, 3) := by decide +kernel
theorem dX4_hour_31 : decode cX4_hour 31 = .ok (.ireturn, 1) := by decide +kernel
theorem dX4_share_0 : decode cX4_share 0 = .ok (.iload_n 1, 1) := by decide +kernel
theorem dX4_share_1 : decode cX4_share 1 = .ok (.iconst 2, 1) := by decide +kernel
theorem dX4_share_2 : decode cX4_share 2 = .ok (.invokestatic 54, 3) := by decide +kernel
theorem dX4_share_5 : decode cX4_share 5 = .ok (.aload_n 0, 1) := by decide +kernel
theorem dX4_share_6 : decode cX4_share 6 = .ok (.aload_n 0, 1) := by decide +kernel
theorem dX4_share_7 : decode cX4_share 7 = .ok (.getfield 41, 3) := by decide +kernel
theorem dX4_share_10 : decode cX4_share 10 = .ok (.aload_n 0, 1) := by decide +kernel
theorem dX4_share_11 : decode cX4_share 11 = .ok (.getfield 45, 3) := by decide +kernel
theorem dX4_share_14 : decode cX4_share 14 = .ok (.invokevirtual 101, 3) := by decide +kernel
theorem dX4_share_17 : decode cX4_share 17 = .ok (.istore_n 2, 1) := by decide +kernel
theorem dX4_share_18 : decode cX4_share 18 = .ok (.aload_n 0, 1) := by decide +kernel
theorem dX4_share_19 : decode cX4_share 19 = .ok (.aload_n 0, 1) := by decide +kernel
theorem dX4_share_20 : decode cX4_share 20 = .ok (.getfield 41, 3) := by decide +kernel
theorem dX4_share_23 : decode cX4_share 23 = .ok (.aload_n 0, 1) := by decide +kernel
theorem dX4_share_24 : decode cX4_share 24 = .ok (.getfield 45, 3) := by decide +kernel
theorem dX4_share_27 : decode cX4_share 27 = .ok (.invokevirtual 104, 3) := by decide +kernel
theorem dX4_share_30 : decode cX4_share 30 = .ok (.istore_n 3, 1) := by decide +kernel
theorem dX4_share_31 : decode cX4_share 31 = .ok (.iload_n 3, 1) := by decide +kernel
theorem dX4_share_32 : decode cX4_share 32 = .ok (.invokestatic 107, 3) := by decide +kernel
theorem dX4_share_35 : decode cX4_share 35 = .ok (.iload_n 1, 1) := by decide +kernel
theorem dX4_share_36 : decode cX4_share 36 = .ok (.ifCond .ne 7, 3) := by decide +kernel
theorem dX4_share_39 : decode cX4_share 39 = .ok (.iload_n 2, 1) := by decide +kernel
theorem dX4_share_40 : decode cX4_share 40 = .ok (.goto 4, 3) := by decide +kernel
theorem dX4_share_43 : decode cX4_share 43 = .ok (.iload_n 3, 1) := by decide +kernel
theorem dX4_share_44 : decode cX4_share 44 = .ok (.iload_n 2, 1) := by decide +kernel
theorem dX4_share_45 : decode cX4_share 45 = .ok (.iload_n 3, 1) := by decide +kernel
theorem dX4_share_46 : decode cX4_share 46 = .ok (.invokestatic 111, 3) := by decide +kernel
theorem dX4_share_49 : decode cX4_share 49 = .ok (.ireturn, 1) := by decide +kernel
theorem dX4_placed_0 : decode cX4_placed 0 = .ok (.iload_n 1, 1) := by decide +kernel
theorem dX4_placed_1 : decode cX4_placed 1 = .ok (.iconst 1, 1) := by decide +kernel
theorem dX4_placed_2 : decode cX4_placed 2 = .ok (.bipush 100, 2) := by decide +kernel
theorem dX4_placed_4 : decode cX4_placed 4 = .ok (.invokestatic 58, 3) := by decide +kernel
theorem dX4_placed_7 : decode cX4_placed 7 = .ok (.aload_n 0, 1) := by decide +kernel
theorem dX4_placed_8 : decode cX4_placed 8 = .ok (.getfield 19, 3) := by decide +kernel
theorem dX4_placed_11 : decode cX4_placed 11 = .ok (.iload_n 1, 1) := by decide +kernel
theorem dX4_placed_12 : decode cX4_placed 12 = .ok (.aload_n 0, 1) := by decide +kernel
theorem dX4_placed_13 : decode cX4_placed 13 = .ok (.getfield 41, 3) := by decide +kernel
theorem dX4_placed_16 : decode cX4_placed 16 = .ok (.aload_n 0, 1) := by decide +kernel
theorem dX4_placed_17 : decode cX4_placed 17 = .ok (.getfield 45, 3) := by decide +kernel
theorem dX4_placed_20 : decode cX4_placed 20 = .ok (.aload_n 0, 1) := by decide +kernel
theorem dX4_placed_21 : decode cX4_placed 21 = .ok (.getfield 48, 3) := by decide +kernel
theorem dX4_placed_24 : decode cX4_placed 24 = .ok (.aload_n 0, 1) := by decide +kernel
theorem dX4_placed_25 : decode cX4_placed 25 = .ok (.getfield 51, 3) := by decide +kernel
theorem dX4_placed_28 : decode cX4_placed 28 = .ok (.invokevirtual 114, 3) := by decide +kernel
theorem dX4_placed_31 : decode cX4_placed 31 = .ok (.ireturn, 1) := by decide +kernel
theorem dX4_splits_0 : decode cX4_splits 0 = .ok (.aload_n 0, 1) := by decide +kernel
theorem dX4_splits_1 : decode cX4_splits 1 = .ok (.getfield 10, 3) := by decide +kernel
theorem dX4_splits_4 : decode cX4_splits 4 = .ok (.aload_n 0, 1) := by decide +kernel
theorem dX4_splits_5 : decode cX4_splits 5 = .ok (.getfield 41, 3) := by decide +kernel
theorem dX4_splits_8 : decode cX4_splits 8 = .ok (.aload_n 0, 1) := by decide +kernel
theorem dX4_splits_9 : decode cX4_splits 9 = .ok (.getfield 45, 3) := by decide +kernel
theorem dX4_splits_12 : decode cX4_splits 12 = .ok (.invokevirtual 117, 3) := by decide +kernel
theorem dX4_splits_15 : decode cX4_splits 15 = .ok (.ireturn, 1) := by decide +kernel
theorem dX4_compare_0 : decode cX4_compare 0 = .ok (.iload_n 1, 1) := by decide +kernel
theorem dX4_compare_1 : decode cX4_compare 1 = .ok (.iload_n 2, 1) := by decide +kernel
theorem dX4_compare_2 : decode cX4_compare 2 = .ok (.invokestatic 90, 3) := by decide +kernel
theorem dX4_compare_5 : decode cX4_compare 5 = .ok (.aload_n 0, 1) := by decide +kernel
theorem dX4_compare_6 : decode cX4_compare 6 = .ok (.aload_n 0, 1) := by decide +kernel
theorem dX4_compare_7 : decode cX4_compare 7 = .ok (.getfield 41, 3) := by decide +kernel
theorem dX4_compare_10 : decode cX4_compare 10 = .ok (.aload_n 0, 1) := by decide +kernel
theorem dX4_compare_11 : decode cX4_compare 11 = .ok (.getfield 45, 3) := by decide +kernel
theorem dX4_compare_14 : decode cX4_compare 14 = .ok (.invokevirtual 104, 3) := by decide +kernel
theorem dX4_compare_17 : decode cX4_compare 17 = .ok (.istore_n 3, 1) := by decide +kernel
theorem dX4_compare_18 : decode cX4_compare 18 = .ok (.aload_n 0, 1) := by decide +kernel
theorem dX4_compare_19 : decode cX4_compare 19 = .ok (.iload_n 1, 1) := by decide +kernel
theorem dX4_compare_20 : decode cX4_compare 20 = .ok (.iload_n 2, 1) := by decide +kernel
theorem dX4_compare_21 : decode cX4_compare 21 = .ok (.invokevirtual 104, 3) := by decide +kernel
theorem dX4_compare_24 : decode cX4_compare 24 = .ok (.istore 4, 2) := by decide +kernel
theorem dX4_compare_26 : decode cX4_compare 26 = .ok (.iload_n 3, 1) := by decide +kernel
theorem dX4_compare_27 : decode cX4_compare 27 = .ok (.invokestatic 107, 3) := by decide +kernel
theorem dX4_compare_30 : decode cX4_compare 30 = .ok (.iload 4, 2) := by decide +kernel
theorem dX4_compare_32 : decode cX4_compare 32 = .ok (.invokestatic 107, 3) := by decide +kernel
theorem dX4_compare_35 : decode cX4_compare 35 = .ok (.aload_n 0, 1) := by decide +kernel
theorem dX4_compare_36 : decode cX4_compare 36 = .ok (.aload_n 0, 1) := by decide +kernel
theorem dX4_compare_37 : decode cX4_compare 37 = .ok (.getfield 41, 3) := by decide +kernel
theorem dX4_compare_40 : decode cX4_compare 40 = .ok (.aload_n 0, 1) := by decide +kernel
theorem dX4_compare_41 : decode cX4_compare 41 = .ok (.getfield 45, 3) := by decide +kernel
theorem dX4_compare_44 : decode cX4_compare 44 = .ok (.invokevirtual 101, 3) := by decide +kernel
theorem dX4_compare_47 : decode cX4_compare 47 = .ok (.iload 4, 2) := by decide +kernel
theorem dX4_compare_49 : decode cX4_compare 49 = .ok (.imul, 1) := by decide +kernel
theorem dX4_compare_50 : decode cX4_compare 50 = .ok (.aload_n 0, 1) := by decide +kernel
theorem dX4_compare_51 : decode cX4_compare 51 = .ok (.iload_n 1, 1) := by decide +kernel
theorem dX4_compare_52 : decode cX4_compare 52 = .ok (.iload_n 2, 1) := by decide +kernel
theorem dX4_compare_53 : decode cX4_compare 53 = .ok (.invokevirtual 101, 3) := by decide +kernel
theorem dX4_compare_56 : decode cX4_compare 56 = .ok (.iload_n 3, 1) := by decide +kernel
theorem dX4_compare_57 : decode cX4_compare 57 = .ok (.imul, 1) := by decide +kernel
theorem dX4_compare_58 : decode cX4_compare 58 = .ok (.invokestatic 120, 3) := by decide +kernel
theorem dX4_compare_61 : decode cX4_compare 61 = .ok (.ireturn, 1) := by decide +kernel
theorem dX4_trend_0 : decode cX4_trend 0 = .ok (.iload 4, 2) := by decide +kernel
theorem dX4_trend_2 : decode cX4_trend 2 = .ok (.iconst 3, 1) := by decide +kernel
theorem dX4_trend_3 : decode cX4_trend 3 = .ok (.invokestatic 54, 3) := by decide +kernel
theorem dX4_trend_6 : decode cX4_trend 6 = .ok (.iload_n 3, 1) := by decide +kernel
theorem dX4_trend_7 : decode cX4_trend 7 = .ok (.iconst 2, 1) := by decide +kernel
theorem dX4_trend_8 : decode cX4_trend 8 = .ok (.bipush 6, 2) := by decide +kernel
theorem dX4_trend_10 : decode cX4_trend 10 = .ok (.invokestatic 58, 3) := by decide +kernel
theorem dX4_trend_13 : decode cX4_trend 13 = .ok (.iload_n 2, 1) := by decide +kernel
theorem dX4_trend_14 : decode cX4_trend 14 = .ok (.iconst 1, 1) := by decide +kernel
theorem dX4_trend_15 : decode cX4_trend 15 = .ok (.sipush 1000, 3) := by decide +kernel
theorem dX4_trend_18 : decode cX4_trend 18 = .ok (.invokestatic 58, 3) := by decide +kernel
theorem dX4_trend_21 : decode cX4_trend 21 = .ok (.iload_n 1, 1) := by decide +kernel
theorem dX4_trend_22 : decode cX4_trend 22 = .ok (.iconst 0, 1) := by decide +kernel
theorem dX4_trend_23 : decode cX4_trend 23 = .ok (.sipush 10000, 3) := by decide +kernel
theorem dX4_trend_26 : decode cX4_trend 26 = .ok (.iload_n 2, 1) := by decide +kernel
theorem dX4_trend_27 : decode cX4_trend 27 = .ok (.iload_n 3, 1) := by decide +kernel
theorem dX4_trend_28 : decode cX4_trend 28 = .ok (.imul, 1) := by decide +kernel
theorem dX4_trend_29 : decode cX4_trend 29 = .ok (.isub, 1) := by decide +kernel
theorem dX4_trend_30 : decode cX4_trend 30 = .ok (.invokestatic 58, 3) := by decide +kernel
theorem dX4_trend_33 : decode cX4_trend 33 = .ok (.aload_n 0, 1) := by decide +kernel
theorem dX4_trend_34 : decode cX4_trend 34 = .ok (.getfield 26, 3) := by decide +kernel
theorem dX4_trend_37 : decode cX4_trend 37 = .ok (.iload_n 3, 1) := by decide +kernel
theorem dX4_trend_38 : decode cX4_trend 38 = .ok (.invokevirtual 125, 3) := by decide +kernel
theorem dX4_trend_41 : decode cX4_trend 41 = .ok (.iconst 0, 1) := by decide +kernel
theorem dX4_trend_42 : decode cX4_trend 42 = .ok (.istore 5, 2) := by decide +kernel
theorem dX4_trend_44 : decode cX4_trend 44 = .ok (.iload 5, 2) := by decide +kernel
theorem dX4_trend_46 : decode cX4_trend 46 = .ok (.iload_n 3, 1) := by decide +kernel
theorem dX4_trend_47 : decode cX4_trend 47 = .ok (.if_icmp .ge 49, 3) := by decide +kernel
theorem dX4_trend_50 : decode cX4_trend 50 = .ok (.iload_n 1, 1) := by decide +kernel
theorem dX4_trend_51 : decode cX4_trend 51 = .ok (.iload 5, 2) := by decide +kernel
theorem dX4_trend_53 : decode cX4_trend 53 = .ok (.iload_n 2, 1) := by decide +kernel
theorem dX4_trend_54 : decode cX4_trend 54 = .ok (.imul, 1) := by decide +kernel
theorem dX4_trend_55 : decode cX4_trend 55 = .ok (.iadd, 1) := by decide +kernel
theorem dX4_trend_56 : decode cX4_trend 56 = .ok (.istore 6, 2) := by decide +kernel
theorem dX4_trend_58 : decode cX4_trend 58 = .ok (.aload_n 0, 1) := by decide +kernel
theorem dX4_trend_59 : decode cX4_trend 59 = .ok (.getfield 26, 3) := by decide +kernel
theorem dX4_trend_62 : decode cX4_trend 62 = .ok (.iload 5, 2) := by decide +kernel
theorem dX4_trend_64 : decode cX4_trend 64 = .ok (.aload_n 0, 1) := by decide +kernel
theorem dX4_trend_65 : decode cX4_trend 65 = .ok (.getfield 19, 3) := by decide +kernel
theorem dX4_trend_68 : decode cX4_trend 68 = .ok (.iload 6, 2) := by decide +kernel
theorem dX4_trend_70 : decode cX4_trend 70 = .ok (.iload 6, 2) := by decide +kernel
theorem dX4_trend_72 : decode cX4_trend 72 = .ok (.iload_n 2, 1) := by decide +kernel
theorem dX4_trend_73 : decode cX4_trend 73 = .ok (.iadd, 1) := by decide +kernel
theorem dX4_trend_74 : decode cX4_trend 74 = .ok (.iconst 1, 1) := by decide +kernel
theorem dX4_trend_75 : decode cX4_trend 75 = .ok (.isub, 1) := by decide +kernel
theorem dX4_trend_76 : decode cX4_trend 76 = .ok (.aload_n 0, 1) := by decide +kernel
theorem dX4_trend_77 : decode cX4_trend 77 = .ok (.getfield 48, 3) := by decide +kernel
theorem dX4_trend_80 : decode cX4_trend 80 = .ok (.aload_n 0, 1) := by decide +kernel
theorem dX4_trend_81 : decode cX4_trend 81 = .ok (.getfield 51, 3) := by decide +kernel
theorem dX4_trend_84 : decode cX4_trend 84 = .ok (.invokevirtual 128, 3) := by decide +kernel
theorem dX4_trend_87 : decode cX4_trend 87 = .ok (.invokevirtual 132, 3) := by decide +kernel
theorem dX4_trend_90 : decode cX4_trend 90 = .ok (.iinc 5 1, 3) := by decide +kernel
theorem dX4_trend_93 : decode cX4_trend 93 = .ok (.goto (-49), 3) := by decide +kernel
theorem dX4_trend_96 : decode cX4_trend 96 = .ok (.iload 4, 2) := by decide +kernel
theorem dX4_trend_98 : decode cX4_trend 98 = .ok (.ifCond .ne 11, 3) := by decide +kernel
theorem dX4_trend_101 : decode cX4_trend 101 = .ok (.aload_n 0, 1) := by decide +kernel
theorem dX4_trend_102 : decode cX4_trend 102 = .ok (.getfield 26, 3) := by decide +kernel
theorem dX4_trend_105 : decode cX4_trend 105 = .ok (.invokevirtual 135, 3) := by decide +kernel
theorem dX4_trend_108 : decode cX4_trend 108 = .ok (.ireturn, 1) := by decide +kernel
theorem dX4_trend_109 : decode cX4_trend 109 = .ok (.aload_n 0, 1) := by decide +kernel
theorem dX4_trend_110 : decode cX4_trend 110 = .ok (.getfield 26, 3) := by decide +kernel
theorem dX4_trend_113 : decode cX4_trend 113 = .ok (.aload_n 0, 1) := by decide +kernel
theorem dX4_trend_114 : decode cX4_trend 114 = .ok (.getfield 26, 3) := by decide +kernel
theorem dX4_trend_117 : decode cX4_trend 117 = .ok (.invokevirtual 135, 3) := by decide +kernel
theorem dX4_trend_120 : decode cX4_trend 120 = .ok (.invokevirtual 138, 3) := by decide +kernel
theorem dX4_trend_123 : decode cX4_trend 123 = .ok (.istore 5, 2) := by decide +kernel
theorem dX4_trend_125 : decode cX4_trend 125 = .ok (.aload_n 0, 1) := by decide +kernel
theorem dX4_trend_126 : decode cX4_trend 126 = .ok (.getfield 26, 3) := by decide +kernel
theorem dX4_trend_129 : decode cX4_trend 129 = .ok (.invokevirtual 142, 3) := by decide +kernel
theorem dX4_trend_132 : decode cX4_trend 132 = .ok (.istore 6, 2) := by decide +kernel
theorem dX4_trend_134 : decode cX4_trend 134 = .ok (.iload 4, 2) := by decide +kernel
theorem dX4_trend_136 : decode cX4_trend 136 = .ok (.iconst 1, 1) := by decide +kernel
theorem dX4_trend_137 : decode cX4_trend 137 = .ok (.if_icmp .ne 8, 3) := by decide +kernel
theorem dX4_trend_140 : decode cX4_trend 140 = .ok (.iload 5, 2) := by decide +kernel
theorem dX4_trend_142 : decode cX4_trend 142 = .ok (.goto 5, 3) := by decide +kernel
theorem dX4_trend_145 : decode cX4_trend 145 = .ok (.iload 6, 2) := by decide +kernel
theorem dX4_trend_147 : decode cX4_trend 147 = .ok (.iload 5, 2) := by decide +kernel
theorem dX4_trend_149 : decode cX4_trend 149 = .ok (.iload 6, 2) := by decide +kernel
theorem dX4_trend_151 : decode cX4_trend 151 = .ok (.invokestatic 111, 3) := by decide +kernel
theorem dX4_trend_154 : decode cX4_trend 154 = .ok (.ireturn, 1) := by decide +kernel
theorem dX4_people_0 : decode cX4_people 0 = .ok (.iload_n 1, 1) := by decide +kernel
theorem dX4_people_1 : decode cX4_people 1 = .ok (.bipush 10, 2) := by decide +kernel
theorem dX4_people_3 : decode cX4_people 3 = .ok (.invokestatic 54, 3) := by decide +kernel
theorem dX4_people_6 : decode cX4_people 6 = .ok (.iload_n 2, 1) := by decide +kernel
theorem dX4_people_7 : decode cX4_people 7 = .ok (.iconst 0, 1) := by decide +kernel
theorem dX4_people_8 : decode cX4_people 8 = .ok (.ldc 145, 2) := by decide +kernel
theorem dX4_people_10 : decode cX4_people 10 = .ok (.invokestatic 58, 3) := by decide +kernel
theorem dX4_people_13 : decode cX4_people 13 = .ok (.aload_n 0, 1) := by decide +kernel
theorem dX4_people_14 : decode cX4_people 14 = .ok (.getfield 37, 3) := by decide +kernel
theorem dX4_people_17 : decode cX4_people 17 = .ok (.iload_n 1, 1) := by decide +kernel
theorem dX4_people_18 : decode cX4_people 18 = .ok (.iload_n 2, 1) := by decide +kernel
theorem dX4_people_19 : decode cX4_people 19 = .ok (.iastore, 1) := by decide +kernel
theorem dX4_people_20 : decode cX4_people 20 = .ok (.return_, 1) := by decide +kernel
theorem dX4_perThousand_0 : decode cX4_perThousand 0 = .ok (.iload_n 1, 1) := by decide +kernel
theorem dX4_perThousand_1 : decode cX4_perThousand 1 = .ok (.bipush 10, 2) := by decide +kernel
theorem dX4_perThousand_3 : decode cX4_perThousand 3 = .ok (.invokestatic 54, 3) := by decide +kernel
theorem dX4_perThousand_6 : decode cX4_perThousand 6 = .ok (.aload_n 0, 1) := by decide +kernel
theorem dX4_perThousand_7 : decode cX4_perThousand 7 = .ok (.getfield 37, 3) := by decide +kernel
theorem dX4_perThousand_10 : decode cX4_perThousand 10 = .ok (.iload_n 1, 1) := by decide +kernel
theorem dX4_perThousand_11 : decode cX4_perThousand 11 = .ok (.iaload, 1) := by decide +kernel
theorem dX4_perThousand_12 : decode cX4_perThousand 12 = .ok (.istore_n 2, 1) := by decide +kernel
theorem dX4_perThousand_13 : decode cX4_perThousand 13 = .ok (.iload_n 2, 1) := by decide +kernel
theorem dX4_perThousand_14 : decode cX4_perThousand 14 = .ok (.ifCond .gt 13, 3) := by decide +kernel
theorem dX4_perThousand_17 : decode cX4_perThousand 17 = .ok (.new 146, 3) := by decide +kernel
theorem dX4_perThousand_20 : decode cX4_perThousand 20 = .ok (.dup, 1) := by decide +kernel
theorem dX4_perThousand_21 : decode cX4_perThousand 21 = .ok (.ldc 148, 2) := by decide +kernel
theorem dX4_perThousand_23 : decode cX4_perThousand 23 = .ok (.invokespecial 150, 3) := by decide +kernel
theorem dX4_perThousand_26 : decode cX4_perThousand 26 = .ok (.athrow, 1) := by decide +kernel
theorem dX4_perThousand_27 : decode cX4_perThousand 27 = .ok (.sipush 1000, 3) := by decide +kernel
theorem dX4_perThousand_30 : decode cX4_perThousand 30 = .ok (.aload_n 0, 1) := by decide +kernel
theorem dX4_perThousand_31 : decode cX4_perThousand 31 = .ok (.iload_n 1, 1) := by decide +kernel
theorem dX4_perThousand_32 : decode cX4_perThousand 32 = .ok (.invokevirtual 151, 3) := by decide +kernel
theorem dX4_perThousand_35 : decode cX4_perThousand 35 = .ok (.imul, 1) := by decide +kernel
theorem dX4_perThousand_36 : decode cX4_perThousand 36 = .ok (.iload_n 2, 1) := by decide +kernel
theorem dX4_perThousand_37 : decode cX4_perThousand 37 = .ok (.idiv, 1) := by decide +kernel
theorem dX4_perThousand_38 : decode cX4_perThousand 38 = .ok (.ireturn, 1) := by decide +kernel
theorem dX4_rank_0 : decode cX4_rank 0 = .ok (.iload_n 1, 1) := by decide +kernel
theorem dX4_rank_1 : decode cX4_rank 1 = .ok (.bipush 10, 2) := by decide +kernel
theorem dX4_rank_3 : decode cX4_rank 3 = .ok (.invokestatic 54, 3) := by decide +kernel
theorem dX4_rank_6 : decode cX4_rank 6 = .ok (.aload_n 0, 1) := by decide +kernel
theorem dX4_rank_7 : decode cX4_rank 7 = .ok (.iload_n 1, 1) := by decide +kernel
theorem dX4_rank_8 : decode cX4_rank 8 = .ok (.invokevirtual 151, 3) := by decide +kernel
theorem dX4_rank_11 : decode cX4_rank 11 = .ok (.istore_n 2, 1) := by decide +kernel
theorem dX4_rank_12 : decode cX4_rank 12 = .ok (.iconst 1, 1) := by decide +kernel
theorem dX4_rank_13 : decode cX4_rank 13 = .ok (.istore_n 3, 1) := by decide +kernel
theorem dX4_rank_14 : decode cX4_rank 14 = .ok (.iconst 0, 1) := by decide +kernel
theorem dX4_rank_15 : decode cX4_rank 15 = .ok (.istore 4, 2) := by decide +kernel
theorem dX4_rank_17 : decode cX4_rank 17 = .ok (.iload 4, 2) := by decide +kernel
theorem dX4_rank_19 : decode cX4_rank 19 = .ok (.bipush 10, 2) := by decide +kernel
theorem dX4_rank_21 : decode cX4_rank 21 = .ok (.if_icmp .ge 22, 3) := by decide +kernel
theorem dX4_rank_24 : decode cX4_rank 24 = .ok (.aload_n 0, 1) := by decide +kernel
theorem dX4_rank_25 : decode cX4_rank 25 = .ok (.iload 4, 2) := by decide +kernel
theorem dX4_rank_27 : decode cX4_rank 27 = .ok (.invokevirtual 151, 3) := by decide +kernel
theorem dX4_rank_30 : decode cX4_rank 30 = .ok (.iload_n 2, 1) := by decide +kernel
theorem dX4_rank_31 : decode cX4_rank 31 = .ok (.if_icmp .le 6, 3) := by decide +kernel
theorem dX4_rank_34 : decode cX4_rank 34 = .ok (.iinc 3 1, 3) := by decide +kernel
theorem dX4_rank_37 : decode cX4_rank 37 = .ok (.iinc 4 1, 3) := by decide +kernel
theorem dX4_rank_40 : decode cX4_rank 40 = .ok (.goto (-23), 3) := by decide +kernel
theorem dX4_rank_43 : decode cX4_rank 43 = .ok (.iload_n 3, 1) := by decide +kernel
theorem dX4_rank_44 : decode cX4_rank 44 = .ok (.ireturn, 1) := by decide +kernel
theorem dX4_least_0 : decode cX4_least 0 = .ok (.iload_n 1, 1) := by decide +kernel
theorem dX4_least_1 : decode cX4_least 1 = .ok (.iconst 1, 1) := by decide +kernel
theorem dX4_least_2 : decode cX4_least 2 = .ok (.bipush 100, 2) := by decide +kernel
theorem dX4_least_4 : decode cX4_least 4 = .ok (.invokestatic 58, 3) := by decide +kernel
theorem dX4_least_7 : decode cX4_least 7 = .ok (.aload_n 0, 1) := by decide +kernel
theorem dX4_least_8 : decode cX4_least 8 = .ok (.getfield 33, 3) := by decide +kernel
theorem dX4_least_11 : decode cX4_least 11 = .ok (.iload_n 1, 1) := by decide +kernel
theorem dX4_least_12 : decode cX4_least 12 = .ok (.invokevirtual 154, 3) := by decide +kernel
theorem dX4_least_15 : decode cX4_least 15 = .ok (.return_, 1) := by decide +kernel
theorem dX4_shown_0 : decode cX4_shown 0 = .ok (.iload_n 1, 1) := by decide +kernel
theorem dX4_shown_1 : decode cX4_shown 1 = .ok (.bipush 10, 2) := by decide +kernel
theorem dX4_shown_3 : decode cX4_shown 3 = .ok (.invokestatic 54, 3) := by decide +kernel
theorem dX4_shown_6 : decode cX4_shown 6 = .ok (.aload_n 0, 1) := by decide +kernel
theorem dX4_shown_7 : decode cX4_shown 7 = .ok (.getfield 33, 3) := by decide +kernel
theorem dX4_shown_10 : decode cX4_shown 10 = .ok (.aload_n 0, 1) := by decide +kernel
theorem dX4_shown_11 : decode cX4_shown 11 = .ok (.getfield 19, 3) := by decide +kernel
theorem dX4_shown_14 : decode cX4_shown 14 = .ok (.aload_n 0, 1) := by decide +kernel
theorem dX4_shown_15 : decode cX4_shown 15 = .ok (.getfield 41, 3) := by decide +kernel
theorem dX4_shown_18 : decode cX4_shown 18 = .ok (.aload_n 0, 1) := by decide +kernel
theorem dX4_shown_19 : decode cX4_shown 19 = .ok (.getfield 45, 3) := by decide +kernel
theorem dX4_shown_22 : decode cX4_shown 22 = .ok (.invokevirtual 157, 3) := by decide +kernel
theorem dX4_shown_25 : decode cX4_shown 25 = .ok (.aload_n 0, 1) := by decide +kernel
theorem dX4_shown_26 : decode cX4_shown 26 = .ok (.getfield 33, 3) := by decide +kernel
theorem dX4_shown_29 : decode cX4_shown 29 = .ok (.iload_n 1, 1) := by decide +kernel
theorem dX4_shown_30 : decode cX4_shown 30 = .ok (.invokevirtual 161, 3) := by decide +kernel
theorem dX4_shown_33 : decode cX4_shown 33 = .ok (.ireturn, 1) := by decide +kernel
theorem dX4_joined_0 : decode cX4_joined 0 = .ok (.aload_n 0, 1) := by decide +kernel
theorem dX4_joined_1 : decode cX4_joined 1 = .ok (.getfield 33, 3) := by decide +kernel
theorem dX4_joined_4 : decode cX4_joined 4 = .ok (.aload_n 0, 1) := by decide +kernel
theorem dX4_joined_5 : decode cX4_joined 5 = .ok (.getfield 19, 3) := by decide +kernel
theorem dX4_joined_8 : decode cX4_joined 8 = .ok (.aload_n 0, 1) := by decide +kernel
theorem dX4_joined_9 : decode cX4_joined 9 = .ok (.getfield 41, 3) := by decide +kernel
theorem dX4_joined_12 : decode cX4_joined 12 = .ok (.aload_n 0, 1) := by decide +kernel
theorem dX4_joined_13 : decode cX4_joined 13 = .ok (.getfield 45, 3) := by decide +kernel
theorem dX4_joined_16 : decode cX4_joined 16 = .ok (.invokevirtual 157, 3) := by decide +kernel
theorem dX4_joined_19 : decode cX4_joined 19 = .ok (.aload_n 0, 1) := by decide +kernel
theorem dX4_joined_20 : decode cX4_joined 20 = .ok (.getfield 33, 3) := by decide +kernel
theorem dX4_joined_23 : decode cX4_joined 23 = .ok (.invokevirtual 164, 3) := by decide +kernel
theorem dX4_joined_26 : decode cX4_joined 26 = .ok (.ireturn, 1) := by decide +kernel
theorem dX4_work_0 : decode cX4_work 0 = .ok (.iload_n 1, 1) := by decide +kernel
theorem dX4_work_1 : decode cX4_work 1 = .ok (.bipush 6, 2) := by decide +kernel
theorem dX4_work_3 : decode cX4_work 3 = .ok (.invokestatic 54, 3) := by decide +kernel
theorem dX4_work_6 : decode cX4_work 6 = .ok (.iload_n 2, 1) := by decide +kernel
theorem dX4_work_7 : decode cX4_work 7 = .ok (.iconst 2, 1) := by decide +kernel
theorem dX4_work_8 : decode cX4_work 8 = .ok (.invokestatic 54, 3) := by decide +kernel
theorem dX4_work_11 : decode cX4_work 11 = .ok (.iload_n 2, 1) := by decide +kernel
theorem dX4_work_12 : decode cX4_work 12 = .ok (.ifCond .ne 22, 3) := by decide +kernel
theorem dX4_work_15 : decode cX4_work 15 = .ok (.aload_n 0, 1) := by decide +kernel
theorem dX4_work_16 : decode cX4_work 16 = .ok (.getfield 19, 3) := by decide +kernel
theorem dX4_work_19 : decode cX4_work 19 = .ok (.iload_n 1, 1) := by decide +kernel
theorem dX4_work_20 : decode cX4_work 20 = .ok (.aload_n 0, 1) := by decide +kernel
theorem dX4_work_21 : decode cX4_work 21 = .ok (.getfield 41, 3) := by decide +kernel
theorem dX4_work_24 : decode cX4_work 24 = .ok (.aload_n 0, 1) := by decide +kernel
theorem dX4_work_25 : decode cX4_work 25 = .ok (.getfield 45, 3) := by decide +kernel
theorem dX4_work_28 : decode cX4_work 28 = .ok (.invokevirtual 167, 3) := by decide +kernel
theorem dX4_work_31 : decode cX4_work 31 = .ok (.goto 19, 3) := by decide +kernel
theorem dX4_work_34 : decode cX4_work 34 = .ok (.aload_n 0, 1) := by decide +kernel
theorem dX4_work_35 : decode cX4_work 35 = .ok (.getfield 19, 3) := by decide +kernel
theorem dX4_work_38 : decode cX4_work 38 = .ok (.iload_n 1, 1) := by decide +kernel
theorem dX4_work_39 : decode cX4_work 39 = .ok (.aload_n 0, 1) := by decide +kernel
theorem dX4_work_40 : decode cX4_work 40 = .ok (.getfield 41, 3) := by decide +kernel
theorem dX4_work_43 : decode cX4_work 43 = .ok (.aload_n 0, 1) := by decide +kernel
theorem dX4_work_44 : decode cX4_work 44 = .ok (.getfield 45, 3) := by decide +kernel
theorem dX4_work_47 : decode cX4_work 47 = .ok (.invokevirtual 170, 3) := by decide +kernel
theorem dX4_work_50 : decode cX4_work 50 = .ok (.ireturn, 1) := by decide +kernel
theorem dX4_askedTotal_0 : decode cX4_askedTotal 0 = .ok (.aload_n 0, 1) := by decide +kernel
theorem dX4_askedTotal_1 : decode cX4_askedTotal 1 = .ok (.getfield 19, 3) := by decide +kernel
theorem dX4_askedTotal_4 : decode cX4_askedTotal 4 = .ok (.iload_n 1, 1) := by decide +kernel
theorem dX4_askedTotal_5 : decode cX4_askedTotal 5 = .ok (.aload_n 0, 1) := by decide +kernel
theorem dX4_askedTotal_6 : decode cX4_askedTotal 6 = .ok (.getfield 10, 3) := by decide +kernel
theorem dX4_askedTotal_9 : decode cX4_askedTotal 9 = .ok (.iload_n 2, 1) := by decide +kernel
theorem dX4_askedTotal_10 : decode cX4_askedTotal 10 = .ok (.iload_n 3, 1) := by decide +kernel
theorem dX4_askedTotal_11 : decode cX4_askedTotal 11 = .ok (.aload_n 0, 1) := by decide +kernel
theorem dX4_askedTotal_12 : decode cX4_askedTotal 12 = .ok (.getfield 48, 3) := by decide +kernel
theorem dX4_askedTotal_15 : decode cX4_askedTotal 15 = .ok (.aload_n 0, 1) := by decide +kernel
theorem dX4_askedTotal_16 : decode cX4_askedTotal 16 = .ok (.getfield 51, 3) := by decide +kernel
theorem dX4_askedTotal_19 : decode cX4_askedTotal 19 = .ok (.invokevirtual 173, 3) := by decide +kernel
theorem dX4_askedTotal_22 : decode cX4_askedTotal 22 = .ok (.ireturn, 1) := by decide +kernel
theorem dX4_rowsWithin_0 : decode cX4_rowsWithin 0 = .ok (.aload_n 0, 1) := by decide +kernel
theorem dX4_rowsWithin_1 : decode cX4_rowsWithin 1 = .ok (.iconst 2, 1) := by decide +kernel
theorem dX4_rowsWithin_2 : decode cX4_rowsWithin 2 = .ok (.iload_n 1, 1) := by decide +kernel
theorem dX4_rowsWithin_3 : decode cX4_rowsWithin 3 = .ok (.iload_n 2, 1) := by decide +kernel
theorem dX4_rowsWithin_4 : decode cX4_rowsWithin 4 = .ok (.invokevirtual 93, 3) := by decide +kernel
theorem dX4_rowsWithin_7 : decode cX4_rowsWithin 7 = .ok (.ireturn, 1) := by decide +kernel
theorem dX4_rowsNotWithout_0 : decode cX4_rowsNotWithout 0 = .ok (.aload_n 0, 1) := by decide +kernel
theorem dX4_rowsNotWithout_1 : decode cX4_rowsNotWithout 1 = .ok (.iconst 0, 1) := by decide +kernel
theorem dX4_rowsNotWithout_2 : decode cX4_rowsNotWithout 2 = .ok (.iload_n 1, 1) := by decide +kernel
theorem dX4_rowsNotWithout_3 : decode cX4_rowsNotWithout 3 = .ok (.iload_n 2, 1) := by decide +kernel
theorem dX4_rowsNotWithout_4 : decode cX4_rowsNotWithout 4 = .ok (.invokevirtual 93, 3) := by decide +kernel
theorem dX4_rowsNotWithout_7 : decode cX4_rowsNotWithout 7 = .ok (.aload_n 0, 1) := by decide +kernel
theorem dX4_rowsNotWithout_8 : decode cX4_rowsNotWithout 8 = .ok (.iconst 3, 1) := by decide +kernel
theorem dX4_rowsNotWithout_9 : decode cX4_rowsNotWithout 9 = .ok (.iload_n 1, 1) := by decide +kernel
theorem dX4_rowsNotWithout_10 : decode cX4_rowsNotWithout 10 = .ok (.iload_n 2, 1) := by decide +kernel
theorem dX4_rowsNotWithout_11 : decode cX4_rowsNotWithout 11 = .ok (.invokevirtual 93, 3) := by decide +kernel
theorem dX4_rowsNotWithout_14 : decode cX4_rowsNotWithout 14 = .ok (.isub, 1) := by decide +kernel
theorem dX4_rowsNotWithout_15 : decode cX4_rowsNotWithout 15 = .ok (.ireturn, 1) := by decide +kernel
theorem dX4_rowsOfArea_0 : decode cX4_rowsOfArea 0 = .ok (.aload_n 0, 1) := by decide +kernel
theorem dX4_rowsOfArea_1 : decode cX4_rowsOfArea 1 = .ok (.getfield 19, 3) := by decide +kernel
theorem dX4_rowsOfArea_4 : decode cX4_rowsOfArea 4 = .ok (.aload_n 0, 1) := by decide +kernel
theorem dX4_rowsOfArea_5 : decode cX4_rowsOfArea 5 = .ok (.getfield 41, 3) := by decide +kernel
theorem dX4_rowsOfArea_8 : decode cX4_rowsOfArea 8 = .ok (.aload_n 0, 1) := by decide +kernel
theorem dX4_rowsOfArea_9 : decode cX4_rowsOfArea 9 = .ok (.getfield 45, 3) := by decide +kernel
theorem dX4_rowsOfArea_12 : decode cX4_rowsOfArea 12 = .ok (.aload_n 0, 1) := by decide +kernel
theorem dX4_rowsOfArea_13 : decode cX4_rowsOfArea 13 = .ok (.getfield 48, 3) := by decide +kernel
theorem dX4_rowsOfArea_16 : decode cX4_rowsOfArea 16 = .ok (.iload_n 1, 1) := by decide +kernel
theorem dX4_rowsOfArea_17 : decode cX4_rowsOfArea 17 = .ok (.invokevirtual 128, 3) := by decide +kernel
theorem dX4_rowsOfArea_20 : decode cX4_rowsOfArea 20 = .ok (.ireturn, 1) := by decide +kernel
theorem dX4_refuseUnknown_0 : decode cX4_refuseUnknown 0 = .ok (.iload_n 0, 1) := by decide +kernel
theorem dX4_refuseUnknown_1 : decode cX4_refuseUnknown 1 = .ok (.ifCond .lt 8, 3) := by decide +kernel
theorem dX4_refuseUnknown_4 : decode cX4_refuseUnknown 4 = .ok (.iload_n 0, 1) := by decide +kernel
theorem dX4_refuseUnknown_5 : decode cX4_refuseUnknown 5 = .ok (.iload_n 1, 1) := by decide +kernel
theorem dX4_refuseUnknown_6 : decode cX4_refuseUnknown 6 = .ok (.if_icmp .lt 13, 3) := by decide +kernel
theorem dX4_refuseUnknown_9 : decode cX4_refuseUnknown 9 = .ok (.new 177, 3) := by decide +kernel
theorem dX4_refuseUnknown_12 : decode cX4_refuseUnknown 12 = .ok (.dup, 1) := by decide +kernel
theorem dX4_refuseUnknown_13 : decode cX4_refuseUnknown 13 = .ok (.ldc 179, 2) := by decide +kernel
theorem dX4_refuseUnknown_15 : decode cX4_refuseUnknown 15 = .ok (.invokespecial 181, 3) := by decide +kernel
theorem dX4_refuseUnknown_18 : decode cX4_refuseUnknown 18 = .ok (.athrow, 1) := by decide +kernel
theorem dX4_refuseUnknown_19 : decode cX4_refuseUnknown 19 = .ok (.return_, 1) := by decide +kernel
theorem dX4_refuseOutside_0 : decode cX4_refuseOutside 0 = .ok (.iload_n 0, 1) := by decide +kernel
theorem dX4_refuseOutside_1 : decode cX4_refuseOutside 1 = .ok (.iload_n 1, 1) := by decide +kernel
theorem dX4_refuseOutside_2 : decode cX4_refuseOutside 2 = .ok (.if_icmp .lt 8, 3) := by decide +kernel
theorem dX4_refuseOutside_5 : decode cX4_refuseOutside 5 = .ok (.iload_n 0, 1) := by decide +kernel
theorem dX4_refuseOutside_6 : decode cX4_refuseOutside 6 = .ok (.iload_n 2, 1) := by decide +kernel
theorem dX4_refuseOutside_7 : decode cX4_refuseOutside 7 = .ok (.if_icmp .le 13, 3) := by decide +kernel
theorem dX4_refuseOutside_10 : decode cX4_refuseOutside 10 = .ok (.new 182, 3) := by decide +kernel
theorem dX4_refuseOutside_13 : decode cX4_refuseOutside 13 = .ok (.dup, 1) := by decide +kernel
theorem dX4_refuseOutside_14 : decode cX4_refuseOutside 14 = .ok (.ldc 184, 2) := by decide +kernel
theorem dX4_refuseOutside_16 : decode cX4_refuseOutside 16 = .ok (.invokespecial 186, 3) := by decide +kernel
theorem dX4_refuseOutside_19 : decode cX4_refuseOutside 19 = .ok (.athrow, 1) := by decide +kernel
theorem dX4_refuseOutside_20 : decode cX4_refuseOutside 20 = .ok (.return_, 1) := by decide +kernel
theorem dX4_refuseNoSpan_0 : decode cX4_refuseNoSpan 0 = .ok (.iload_n 0, 1) := by decide +kernel
theorem dX4_refuseNoSpan_1 : decode cX4_refuseNoSpan 1 = .ok (.iconst 0, 1) := by decide +kernel
theorem dX4_refuseNoSpan_2 : decode cX4_refuseNoSpan 2 = .ok (.sipush 9999, 3) := by decide +kernel
theorem dX4_refuseNoSpan_5 : decode cX4_refuseNoSpan 5 = .ok (.invokestatic 58, 3) := by decide +kernel
theorem dX4_refuseNoSpan_8 : decode cX4_refuseNoSpan 8 = .ok (.iload_n 1, 1) := by decide +kernel
theorem dX4_refuseNoSpan_9 : decode cX4_refuseNoSpan 9 = .ok (.iload_n 0, 1) := by decide +kernel
theorem dX4_refuseNoSpan_10 : decode cX4_refuseNoSpan 10 = .ok (.sipush 9999, 3) := by decide +kernel
theorem dX4_refuseNoSpan_13 : decode cX4_refuseNoSpan 13 = .ok (.invokestatic 58, 3) := by decide +kernel
theorem dX4_refuseNoSpan_16 : decode cX4_refuseNoSpan 16 = .ok (.return_, 1) := by decide +kernel
theorem dX4_refuseNoShare_0 : decode cX4_refuseNoShare 0 = .ok (.iload_n 0, 1) := by decide +kernel
theorem dX4_refuseNoShare_1 : decode cX4_refuseNoShare 1 = .ok (.ifCond .gt 13, 3) := by decide +kernel
theorem dX4_refuseNoShare_4 : decode cX4_refuseNoShare 4 = .ok (.new 146, 3) := by decide +kernel
theorem dX4_refuseNoShare_7 : decode cX4_refuseNoShare 7 = .ok (.dup, 1) := by decide +kernel
theorem dX4_refuseNoShare_8 : decode cX4_refuseNoShare 8 = .ok (.ldc 187, 2) := by decide +kernel
theorem dX4_refuseNoShare_10 : decode cX4_refuseNoShare 10 = .ok (.invokespecial 150, 3) := by decide +kernel
theorem dX4_refuseNoShare_13 : decode cX4_refuseNoShare 13 = .ok (.athrow, 1) := by decide +kernel
theorem dX4_refuseNoShare_14 : decode cX4_refuseNoShare 14 = .ok (.return_, 1) := by decide +kernel
theorem dX4_inLowestTerms_0 : decode cX4_inLowestTerms 0 = .ok (.iload_n 1, 1) := by decide +kernel
theorem dX4_inLowestTerms_1 : decode cX4_inLowestTerms 1 = .ok (.iload_n 2, 1) := by decide +kernel
theorem dX4_inLowestTerms_2 : decode cX4_inLowestTerms 2 = .ok (.invokestatic 189, 3) := by decide +kernel
theorem dX4_inLowestTerms_5 : decode cX4_inLowestTerms 5 = .ok (.istore_n 3, 1) := by decide +kernel
theorem dX4_inLowestTerms_6 : decode cX4_inLowestTerms 6 = .ok (.iload_n 3, 1) := by decide +kernel
theorem dX4_inLowestTerms_7 : decode cX4_inLowestTerms 7 = .ok (.ifCond .le 9, 3) := by decide +kernel
theorem dX4_inLowestTerms_10 : decode cX4_inLowestTerms 10 = .ok (.iload_n 0, 1) := by decide +kernel
theorem dX4_inLowestTerms_11 : decode cX4_inLowestTerms 11 = .ok (.iload_n 3, 1) := by decide +kernel
theorem dX4_inLowestTerms_12 : decode cX4_inLowestTerms 12 = .ok (.idiv, 1) := by decide +kernel
theorem dX4_inLowestTerms_13 : decode cX4_inLowestTerms 13 = .ok (.goto 4, 3) := by decide +kernel
theorem dX4_inLowestTerms_16 : decode cX4_inLowestTerms 16 = .ok (.iload_n 0, 1) := by decide +kernel
theorem dX4_inLowestTerms_17 : decode cX4_inLowestTerms 17 = .ok (.ireturn, 1) := by decide +kernel
theorem dX4_commonDivisor_0 : decode cX4_commonDivisor 0 = .ok (.iload_n 0, 1) := by decide +kernel
theorem dX4_commonDivisor_1 : decode cX4_commonDivisor 1 = .ok (.istore_n 2, 1) := by decide +kernel
theorem dX4_commonDivisor_2 : decode cX4_commonDivisor 2 = .ok (.iload_n 1, 1) := by decide +kernel
theorem dX4_commonDivisor_3 : decode cX4_commonDivisor 3 = .ok (.istore_n 3, 1) := by decide +kernel
theorem dX4_commonDivisor_4 : decode cX4_commonDivisor 4 = .ok (.iconst 0, 1) := by decide +kernel
theorem dX4_commonDivisor_5 : decode cX4_commonDivisor 5 = .ok (.istore 4, 2) := by decide +kernel
theorem dX4_commonDivisor_7 : decode cX4_commonDivisor 7 = .ok (.iload 4, 2) := by decide +kernel
theorem dX4_commonDivisor_9 : decode cX4_commonDivisor 9 = .ok (.bipush 64, 2) := by decide +kernel
theorem dX4_commonDivisor_11 : decode cX4_commonDivisor 11 = .ok (.if_icmp .ge 23, 3) := by decide +kernel
theorem dX4_commonDivisor_14 : decode cX4_commonDivisor 14 = .ok (.iload_n 3, 1) := by decide +kernel
theorem dX4_commonDivisor_15 : decode cX4_commonDivisor 15 = .ok (.ifCond .eq 19, 3) := by decide +kernel
theorem dX4_commonDivisor_18 : decode cX4_commonDivisor 18 = .ok (.iload_n 2, 1) := by decide +kernel
theorem dX4_commonDivisor_19 : decode cX4_commonDivisor 19 = .ok (.iload_n 3, 1) := by decide +kernel
theorem dX4_commonDivisor_20 : decode cX4_commonDivisor 20 = .ok (.irem, 1) := by decide +kernel
theorem dX4_commonDivisor_21 : decode cX4_commonDivisor 21 = .ok (.istore 5, 2) := by decide +kernel
theorem dX4_commonDivisor_23 : decode cX4_commonDivisor 23 = .ok (.iload_n 3, 1) := by decide +kernel
theorem dX4_commonDivisor_24 : decode cX4_commonDivisor 24 = .ok (.istore_n 2, 1) := by decide +kernel
theorem dX4_commonDivisor_25 : decode cX4_commonDivisor 25 = .ok (.iload 5, 2) := by decide +kernel
theorem dX4_commonDivisor_27 : decode cX4_commonDivisor 27 = .ok (.istore_n 3, 1) := by decide +kernel
theorem dX4_commonDivisor_28 : decode cX4_commonDivisor 28 = .ok (.iinc 4 1, 3) := by decide +kernel
theorem dX4_commonDivisor_31 : decode cX4_commonDivisor 31 = .ok (.goto (-24), 3) := by decide +kernel
theorem dX4_commonDivisor_34 : decode cX4_commonDivisor 34 = .ok (.iload_n 2, 1) := by decide +kernel
theorem dX4_commonDivisor_35 : decode cX4_commonDivisor 35 = .ok (.ireturn, 1) := by decide +kernel
end
section
theorem dX5_init_0 : decode cX5_init 0 = .ok (.aload_n 0, 1) := by decide +kernel
theorem dX5_init_1 : decode cX5_init 1 = .ok (.invokespecial 1, 3) := by decide +kernel
theorem dX5_init_4 : decode cX5_init 4 = .ok (.aload_n 0, 1) := by decide +kernel
theorem dX5_init_5 : decode cX5_init 5 = .ok (.sipush 200, 3) := by decide +kernel
theorem dX5_init_8 : decode cX5_init 8 = .ok (.newarray .int, 2) := by decide +kernel
theorem dX5_init_10 : decode cX5_init 10 = .ok (.putfield 7, 3) := by decide +kernel
theorem dX5_init_13 : decode cX5_init 13 = .ok (.aload_n 0, 1) := by decide +kernel
theorem dX5_init_14 : decode cX5_init 14 = .ok (.sipush 200, 3) := by decide +kernel
theorem dX5_init_17 : decode cX5_init 17 = .ok (.newarray .int, 2) := by decide +kernel
theorem dX5_init_19 : decode cX5_init 19 = .ok (.putfield 13, 3) := by decide +kernel
theorem dX5_init_22 : decode cX5_init 22 = .ok (.aload_n 0, 1) := by decide +kernel
theorem dX5_init_23 : decode cX5_init 23 = .ok (.sipush 200, 3) := by decide +kernel
theorem dX5_init_26 : decode cX5_init 26 = .ok (.newarray .int, 2) := by decide +kernel
theorem dX5_init_28 : decode cX5_init 28 = .ok (.putfield 16, 3) := by decide +kernel
theorem dX5_init_31 : decode cX5_init 31 = .ok (.aload_n 0, 1) := by decide +kernel
theorem dX5_init_32 : decode cX5_init 32 = .ok (.sipush 200, 3) := by decide +kernel
theorem dX5_init_35 : decode cX5_init 35 = .ok (.newarray .int, 2) := by decide +kernel
theorem dX5_init_37 : decode cX5_init 37 = .ok (.putfield 19, 3) := by decide +kernel
theorem dX5_init_40 : decode cX5_init 40 = .ok (.aload_n 0, 1) := by decide +kernel
theorem dX5_init_41 : decode cX5_init 41 = .ok (.sipush 200, 3) := by decide +kernel
theorem dX5_init_44 : decode cX5_init 44 = .ok (.newarray .int, 2) := by decide +kernel
theorem dX5_init_46 : decode cX5_init 46 = .ok (.putfield 22, 3) := by decide +kernel
theorem dX5_init_49 : decode cX5_init 49 = .ok (.aload_n 0, 1) := by decide +kernel
theorem dX5_init_50 : decode cX5_init 50 = .ok (.sipush 200, 3) := by decide +kernel
theorem dX5_init_53 : decode cX5_init 53 = .ok (.newarray .boolean, 2) := by decide +kernel
theorem dX5_init_55 : decode cX5_init 55 = .ok (.putfield 25, 3) := by decide +kernel
theorem dX5_init_58 : decode cX5_init 58 = .ok (.aload_n 0, 1) := by decide +kernel
theorem dX5_init_59 : decode cX5_init 59 = .ok (.sipush 200, 3) := by decide +kernel
theorem dX5_init_62 : decode cX5_init 62 = .ok (.newarray .boolean, 2) := by decide +kernel
theorem dX5_init_64 : decode cX5_init 64 = .ok (.putfield 29, 3) := by decide +kernel
theorem dX5_init_67 : decode cX5_init 67 = .ok (.aload_n 0, 1) := by decide +kernel
theorem dX5_init_68 : decode cX5_init 68 = .ok (.sipush 200, 3) := by decide +kernel
theorem dX5_init_71 : decode cX5_init 71 = .ok (.newarray .int, 2) := by decide +kernel
theorem dX5_init_73 : decode cX5_init 73 = .ok (.putfield 32, 3) := by decide +kernel
theorem dX5_init_76 : decode cX5_init 76 = .ok (.aload_n 0, 1) := by decide +kernel
theorem dX5_init_77 : decode cX5_init 77 = .ok (.sipush 200, 3) := by decide +kernel
theorem dX5_init_80 : decode cX5_init 80 = .ok (.newarray .int, 2) := by decide +kernel
theorem dX5_init_82 : decode cX5_init 82 = .ok (.putfield 35, 3) := by decide +kernel
theorem dX5_init_85 : decode cX5_init 85 = .ok (.aload_n 0, 1) := by decide +kernel
theorem dX5_init_86 : decode cX5_init 86 = .ok (.bipush 6, 2) := by decide +kernel
theorem dX5_init_88 : decode cX5_init 88 = .ok (.newarray .int, 2) := by decide +kernel
theorem dX5_init_90 : decode cX5_init 90 = .ok (.putfield 38, 3) := by decide +kernel
theorem dX5_init_93 : decode cX5_init 93 = .ok (.aload_n 0, 1) := by decide +kernel
theorem dX5_init_94 : decode cX5_init 94 = .ok (.bipush 6, 2) := by decide +kernel
theorem dX5_init_96 : decode cX5_init 96 = .ok (.newarray .int, 2) := by decide +kernel
theorem dX5_init_98 : decode cX5_init 98 = .ok (.putfield 41, 3) := by decide +kernel
theorem dX5_init_101 : decode cX5_init 101 = .ok (.aload_n 0, 1) := by decide +kernel
theorem dX5_init_102 : decode cX5_init 102 = .ok (.sipush 9999, 3) := by decide +kernel
theorem dX5_init_105 : decode cX5_init 105 = .ok (.putfield 44, 3) := by decide +kernel
theorem dX5_init_108 : decode cX5_init 108 = .ok (.aload_n 0, 1) := by decide +kernel
theorem dX5_init_109 : decode cX5_init 109 = .ok (.iconst (-1), 1) := by decide +kernel
theorem dX5_init_110 : decode cX5_init 110 = .ok (.putfield 48, 3) := by decide +kernel
theorem dX5_init_113 : decode cX5_init 113 = .ok (.aload_n 0, 1) := by decide +kernel
theorem dX5_init_114 : decode cX5_init 114 = .ok (.iconst (-1), 1) := by decide +kernel
theorem dX5_init_115 : decode cX5_init 115 = .ok (.putfield 51, 3) := by decide +kernel
theorem dX5_init_118 : decode cX5_init 118 = .ok (.aload_n 0, 1) := by decide +kernel
theorem dX5_init_119 : decode cX5_init 119 = .ok (.bipush 10, 2) := by decide +kernel
theorem dX5_init_121 : decode cX5_init 121 = .ok (.newarray .int, 2) := by decide +kernel
theorem dX5_init_123 : decode cX5_init 123 = .ok (.putfield 54, 3) := by decide +kernel
theorem dX5_init_126 : decode cX5_init 126 = .ok (.aload_n 0, 1) := by decide +kernel
theorem dX5_init_127 : decode cX5_init 127 = .ok (.iconst 3, 1) := by decide +kernel
theorem dX5_init_128 : decode cX5_init 128 = .ok (.putfield 57, 3) := by decide +kernel
theorem dX5_init_131 : decode cX5_init 131 = .ok (.aload_n 0, 1) := by decide +kernel
theorem dX5_init_132 : decode cX5_init 132 = .ok (.bipush 6, 2) := by decide +kernel
theorem dX5_init_134 : decode cX5_init 134 = .ok (.newarray .int, 2) := by decide +kernel
theorem dX5_init_136 : decode cX5_init 136 = .ok (.putfield 60, 3) := by decide +kernel
theorem dX5_init_139 : decode cX5_init 139 = .ok (.aload_n 0, 1) := by decide +kernel
theorem dX5_init_140 : decode cX5_init 140 = .ok (.sipush 1984, 3) := by decide +kernel
theorem dX5_init_143 : decode cX5_init 143 = .ok (.newarray .int, 2) := by decide +kernel
theorem dX5_init_145 : decode cX5_init 145 = .ok (.putfield 63, 3) := by decide +kernel
theorem dX5_init_148 : decode cX5_init 148 = .ok (.aload_n 0, 1) := by decide +kernel
theorem dX5_init_149 : decode cX5_init 149 = .ok (.sipush 200, 3) := by decide +kernel
theorem dX5_init_152 : decode cX5_init 152 = .ok (.newarray .int, 2) := by decide +kernel
theorem dX5_init_154 : decode cX5_init 154 = .ok (.putfield 66, 3) := by decide +kernel
theorem dX5_init_157 : decode cX5_init 157 = .ok (.aload_n 0, 1) := by decide +kernel
theorem dX5_init_158 : decode cX5_init 158 = .ok (.bipush 10, 2) := by decide +kernel
theorem dX5_init_160 : decode cX5_init 160 = .ok (.newarray .boolean, 2) := by decide +kernel
theorem dX5_init_162 : decode cX5_init 162 = .ok (.putfield 69, 3) := by decide +kernel
theorem dX5_init_165 : decode cX5_init 165 = .ok (.return_, 1) := by decide +kernel
theorem dX5_thrownBy_0 : decode cX5_thrownBy 0 = .ok (.iload_n 1, 1) := by decide +kernel
theorem dX5_thrownBy_1 : decode cX5_thrownBy 1 = .ok (.ifCond .eq 7, 3) := by decide +kernel
theorem dX5_thrownBy_4 : decode cX5_thrownBy 4 = .ok (.iconst 1, 1) := by decide +kernel
theorem dX5_thrownBy_5 : decode cX5_thrownBy 5 = .ok (.goto 20, 3) := by decide +kernel
theorem dX5_thrownBy_8 : decode cX5_thrownBy 8 = .ok (.iload_n 2, 1) := by decide +kernel
theorem dX5_thrownBy_9 : decode cX5_thrownBy 9 = .ok (.ifCond .eq 7, 3) := by decide +kernel
theorem dX5_thrownBy_12 : decode cX5_thrownBy 12 = .ok (.iconst 2, 1) := by decide +kernel
theorem dX5_thrownBy_13 : decode cX5_thrownBy 13 = .ok (.goto 12, 3) := by decide +kernel
theorem dX5_thrownBy_16 : decode cX5_thrownBy 16 = .ok (.iload_n 3, 1) := by decide +kernel
theorem dX5_thrownBy_17 : decode cX5_thrownBy 17 = .ok (.ifCond .eq 7, 3) := by decide +kernel
theorem dX5_thrownBy_20 : decode cX5_thrownBy 20 = .ok (.iconst 3, 1) := by decide +kernel
theorem dX5_thrownBy_21 : decode cX5_thrownBy 21 = .ok (.goto 4, 3) := by decide +kernel
theorem dX5_thrownBy_24 : decode cX5_thrownBy 24 = .ok (.iconst 0, 1) := by decide +kernel
theorem dX5_thrownBy_25 : decode cX5_thrownBy 25 = .ok (.ireturn, 1) := by decide +kernel
theorem dX5_thrown_0 : decode cX5_thrown 0 = .ok (.aload_n 0, 1) := by decide +kernel
theorem dX5_thrown_1 : decode cX5_thrown 1 = .ok (.getfield 72, 3) := by decide +kernel
theorem dX5_thrown_4 : decode cX5_thrown 4 = .ok (.ireturn, 1) := by decide +kernel
theorem dX5_throwing_0 : decode cX5_throwing 0 = .ok (.aload_n 0, 1) := by decide +kernel
theorem dX5_throwing_1 : decode cX5_throwing 1 = .ok (.aload_n 0, 1) := by decide +kernel
theorem dX5_throwing_2 : decode cX5_throwing 2 = .ok (.iload_n 1, 1) := by decide +kernel
theorem dX5_throwing_3 : decode cX5_throwing 3 = .ok (.iload_n 2, 1) := by decide +kernel
theorem dX5_throwing_4 : decode cX5_throwing 4 = .ok (.iload_n 3, 1) := by decide +kernel
theorem dX5_throwing_5 : decode cX5_throwing 5 = .ok (.invokevirtual 75, 3) := by decide +kernel
theorem dX5_throwing_8 : decode cX5_throwing 8 = .ok (.putfield 72, 3) := by decide +kernel
theorem dX5_throwing_11 : decode cX5_throwing 11 = .ok (.aload_n 0, 1) := by decide +kernel
theorem dX5_throwing_12 : decode cX5_throwing 12 = .ok (.getfield 72, 3) := by decide +kernel
theorem dX5_throwing_15 : decode cX5_throwing 15 = .ok (.ifCond .le 7, 3) := by decide +kernel
theorem dX5_throwing_18 : decode cX5_throwing 18 = .ok (.iconst 1, 1) := by decide +kernel
theorem dX5_throwing_19 : decode cX5_throwing 19 = .ok (.goto 4, 3) := by decide +kernel
theorem dX5_throwing_22 : decode cX5_throwing 22 = .ok (.iconst 0, 1) := by decide +kernel
theorem dX5_throwing_23 : decode cX5_throwing 23 = .ok (.ireturn, 1) := by decide +kernel
theorem dX5_in_0 : decode cX5_in 0 = .ok (.iload_n 0, 1) := by decide +kernel
theorem dX5_in_1 : decode cX5_in 1 = .ok (.iload_n 1, 1) := by decide +kernel
theorem dX5_in_2 : decode cX5_in 2 = .ok (.if_icmp .lt 12, 3) := by decide +kernel
theorem dX5_in_5 : decode cX5_in 5 = .ok (.iload_n 0, 1) := by decide +kernel
theorem dX5_in_6 : decode cX5_in 6 = .ok (.iload_n 2, 1) := by decide +kernel
theorem dX5_in_7 : decode cX5_in 7 = .ok (.if_icmp .gt 7, 3) := by decide +kernel
theorem dX5_in_10 : decode cX5_in 10 = .ok (.iconst 1, 1) := by decide +kernel
theorem dX5_in_11 : decode cX5_in 11 = .ok (.goto 4, 3) := by decide +kernel
theorem dX5_in_14 : decode cX5_in 14 = .ok (.iconst 0, 1) := by decide +kernel
theorem dX5_in_15 : decode cX5_in 15 = .ok (.ireturn, 1) := by decide +kernel
theorem dX5_isDay_0 : decode cX5_isDay 0 = .ok (.iload_n 0, 1) := by decide +kernel
theorem dX5_isDay_1 : decode cX5_isDay 1 = .ok (.iconst 0, 1) := by decide +kernel
theorem dX5_isDay_2 : decode cX5_isDay 2 = .ok (.sipush 9999, 3) := by decide +kernel
theorem dX5_isDay_5 : decode cX5_isDay 5 = .ok (.invokestatic 79, 3) := by decide +kernel
theorem dX5_isDay_8 : decode cX5_isDay 8 = .ok (.ireturn, 1) := by decide +kernel
theorem dX5_row_0 : decode cX5_row 0 = .ok (.iload_n 3, 1) := by decide +kernel
theorem dX5_row_1 : decode cX5_row 1 = .ok (.iconst 0, 1) := by decide +kernel
theorem dX5_row_2 : decode cX5_row 2 = .ok (.iconst 4, 1) := by decide +kernel
theorem dX5_row_3 : decode cX5_row 3 = .ok (.invokestatic 79, 3) := by decide +kernel
theorem dX5_row_6 : decode cX5_row 6 = .ok (.ifCond .eq 24, 3) := by decide +kernel
theorem dX5_row_9 : decode cX5_row 9 = .ok (.iload 4, 2) := by decide +kernel
theorem dX5_row_11 : decode cX5_row 11 = .ok (.iconst 0, 1) := by decide +kernel
theorem dX5_row_12 : decode cX5_row 12 = .ok (.bipush 9, 2) := by decide +kernel
theorem dX5_row_14 : decode cX5_row 14 = .ok (.invokestatic 79, 3) := by decide +kernel
theorem dX5_row_17 : decode cX5_row 17 = .ok (.ifCond .eq 13, 3) := by decide +kernel
theorem dX5_row_20 : decode cX5_row 20 = .ok (.iload 5, 2) := by decide +kernel
theorem dX5_row_22 : decode cX5_row 22 = .ok (.iconst 0, 1) := by decide +kernel
theorem dX5_row_23 : decode cX5_row 23 = .ok (.iconst 5, 1) := by decide +kernel
theorem dX5_row_24 : decode cX5_row 24 = .ok (.invokestatic 79, 3) := by decide +kernel
theorem dX5_row_27 : decode cX5_row 27 = .ok (.ifCond .ne 7, 3) := by decide +kernel
theorem dX5_row_30 : decode cX5_row 30 = .ok (.iconst 1, 1) := by decide +kernel
theorem dX5_row_31 : decode cX5_row 31 = .ok (.goto 4, 3) := by decide +kernel
theorem dX5_row_34 : decode cX5_row 34 = .ok (.iconst 0, 1) := by decide +kernel
theorem dX5_row_35 : decode cX5_row 35 = .ok (.istore 7, 2) := by decide +kernel
theorem dX5_row_37 : decode cX5_row 37 = .ok (.aload_n 0, 1) := by decide +kernel
theorem dX5_row_38 : decode cX5_row 38 = .ok (.iload 7, 2) := by decide +kernel
theorem dX5_row_40 : decode cX5_row 40 = .ok (.iload_n 1, 1) := by decide +kernel
theorem dX5_row_41 : decode cX5_row 41 = .ok (.invokestatic 83, 3) := by decide +kernel
theorem dX5_row_44 : decode cX5_row 44 = .ok (.ifCond .eq 23, 3) := by decide +kernel
theorem dX5_row_47 : decode cX5_row 47 = .ok (.iload_n 2, 1) := by decide +kernel
theorem dX5_row_48 : decode cX5_row 48 = .ok (.iconst 0, 1) := by decide +kernel
theorem dX5_row_49 : decode cX5_row 49 = .ok (.bipush 23, 2) := by decide +kernel
theorem dX5_row_51 : decode cX5_row 51 = .ok (.invokestatic 79, 3) := by decide +kernel
theorem dX5_row_54 : decode cX5_row 54 = .ok (.ifCond .eq 13, 3) := by decide +kernel
theorem dX5_row_57 : decode cX5_row 57 = .ok (.iload 6, 2) := by decide +kernel
theorem dX5_row_59 : decode cX5_row 59 = .ok (.iconst 0, 1) := by decide +kernel
theorem dX5_row_60 : decode cX5_row 60 = .ok (.iconst 3, 1) := by decide +kernel
theorem dX5_row_61 : decode cX5_row 61 = .ok (.invokestatic 79, 3) := by decide +kernel
theorem dX5_row_64 : decode cX5_row 64 = .ok (.ifCond .ne 7, 3) := by decide +kernel
theorem dX5_row_67 : decode cX5_row 67 = .ok (.iconst 1, 1) := by decide +kernel
theorem dX5_row_68 : decode cX5_row 68 = .ok (.goto 4, 3) := by decide +kernel
theorem dX5_row_71 : decode cX5_row 71 = .ok (.iconst 0, 1) := by decide +kernel
theorem dX5_row_72 : decode cX5_row 72 = .ok (.aload_n 0, 1) := by decide +kernel
theorem dX5_row_73 : decode cX5_row 73 = .ok (.getfield 87, 3) := by decide +kernel
theorem dX5_row_76 : decode cX5_row 76 = .ok (.sipush 200, 3) := by decide +kernel
theorem dX5_row_79 : decode cX5_row 79 = .ok (.if_icmp .ne 7, 3) := by decide +kernel
theorem dX5_row_82 : decode cX5_row 82 = .ok (.iconst 1, 1) := by decide +kernel
theorem dX5_row_83 : decode cX5_row 83 = .ok (.goto 4, 3) := by decide +kernel
theorem dX5_row_86 : decode cX5_row 86 = .ok (.iconst 0, 1) := by decide +kernel
theorem dX5_row_87 : decode cX5_row 87 = .ok (.invokevirtual 90, 3) := by decide +kernel
theorem dX5_row_90 : decode cX5_row 90 = .ok (.ifCond .eq 5, 3) := by decide +kernel
theorem dX5_row_93 : decode cX5_row 93 = .ok (.iconst 0, 1) := by decide +kernel
theorem dX5_row_94 : decode cX5_row 94 = .ok (.ireturn, 1) := by decide +kernel
theorem dX5_row_95 : decode cX5_row 95 = .ok (.aload_n 0, 1) := by decide +kernel
theorem dX5_row_96 : decode cX5_row 96 = .ok (.getfield 7, 3) := by decide +kernel
theorem dX5_row_99 : decode cX5_row 99 = .ok (.aload_n 0, 1) := by decide +kernel
theorem dX5_row_100 : decode cX5_row 100 = .ok (.getfield 87, 3) := by decide +kernel
theorem dX5_row_103 : decode cX5_row 103 = .ok (.iload_n 1, 1) := by decide +kernel
theorem dX5_row_104 : decode cX5_row 104 = .ok (.iastore, 1) := by decide +kernel
theorem dX5_row_105 : decode cX5_row 105 = .ok (.aload_n 0, 1) := by decide +kernel
theorem dX5_row_106 : decode cX5_row 106 = .ok (.getfield 13, 3) := by decide +kernel
theorem dX5_row_109 : decode cX5_row 109 = .ok (.aload_n 0, 1) := by decide +kernel
theorem dX5_row_110 : decode cX5_row 110 = .ok (.getfield 87, 3) := by decide +kernel
theorem dX5_row_113 : decode cX5_row 113 = .ok (.iload_n 2, 1) := by decide +kernel
theorem dX5_row_114 : decode cX5_row 114 = .ok (.iastore, 1) := by decide +kernel
theorem dX5_row_115 : decode cX5_row 115 = .ok (.aload_n 0, 1) := by decide +kernel
theorem dX5_row_116 : decode cX5_row 116 = .ok (.getfield 16, 3) := by decide +kernel
theorem dX5_row_119 : decode cX5_row 119 = .ok (.aload_n 0, 1) := by decide +kernel
theorem dX5_row_120 : decode cX5_row 120 = .ok (.getfield 87, 3) := by decide +kernel
theorem dX5_row_123 : decode cX5_row 123 = .ok (.iload_n 3, 1) := by decide +kernel
theorem dX5_row_124 : decode cX5_row 124 = .ok (.iastore, 1) := by decide +kernel
theorem dX5_row_125 : decode cX5_row 125 = .ok (.aload_n 0, 1) := by decide +kernel
theorem dX5_row_126 : decode cX5_row 126 = .ok (.getfield 19, 3) := by decide +kernel
theorem dX5_row_129 : decode cX5_row 129 = .ok (.aload_n 0, 1) := by decide +kernel
theorem dX5_row_130 : decode cX5_row 130 = .ok (.getfield 87, 3) := by decide +kernel
theorem dX5_row_133 : decode cX5_row 133 = .ok (.iload 4, 2) := by decide +kernel
theorem dX5_row_135 : decode cX5_row 135 = .ok (.iastore, 1) := by decide +kernel
theorem dX5_row_136 : decode cX5_row 136 = .ok (.aload_n 0, 1) := by decide +kernel
theorem dX5_row_137 : decode cX5_row 137 = .ok (.getfield 22, 3) := by decide +kernel
theorem dX5_row_140 : decode cX5_row 140 = .ok (.aload_n 0, 1) := by decide +kernel
theorem dX5_row_141 : decode cX5_row 141 = .ok (.getfield 87, 3) := by decide +kernel
theorem dX5_row_144 : decode cX5_row 144 = .ok (.iload 5, 2) := by decide +kernel
theorem dX5_row_146 : decode cX5_row 146 = .ok (.iastore, 1) := by decide +kernel
theorem dX5_row_147 : decode cX5_row 147 = .ok (.aload_n 0, 1) := by decide +kernel
theorem dX5_row_148 : decode cX5_row 148 = .ok (.getfield 25, 3) := by decide +kernel
theorem dX5_row_151 : decode cX5_row 151 = .ok (.aload_n 0, 1) := by decide +kernel
theorem dX5_row_152 : decode cX5_row 152 = .ok (.getfield 87, 3) := by decide +kernel
theorem dX5_row_155 : decode cX5_row 155 = .ok (.iload 6, 2) := by decide +kernel
theorem dX5_row_157 : decode cX5_row 157 = .ok (.iconst 2, 1) := by decide +kernel
theorem dX5_row_158 : decode cX5_row 158 = .ok (.irem, 1) := by decide +kernel
theorem dX5_row_159 : decode cX5_row 159 = .ok (.iconst 1, 1) := by decide +kernel
theorem dX5_row_160 : decode cX5_row 160 = .ok (.if_icmp .ne 7, 3) := by decide +kernel
theorem dX5_row_163 : decode cX5_row 163 = .ok (.iconst 1, 1) := by decide +kernel
theorem dX5_row_164 : decode cX5_row 164 = .ok (.goto 4, 3) := by decide +kernel
theorem dX5_row_167 : decode cX5_row 167 = .ok (.iconst 0, 1) := by decide +kernel
theorem dX5_row_168 : decode cX5_row 168 = .ok (.bastore, 1) := by decide +kernel
theorem dX5_row_169 : decode cX5_row 169 = .ok (.aload_n 0, 1) := by decide +kernel
theorem dX5_row_170 : decode cX5_row 170 = .ok (.getfield 29, 3) := by decide +kernel
theorem dX5_row_173 : decode cX5_row 173 = .ok (.aload_n 0, 1) := by decide +kernel
theorem dX5_row_174 : decode cX5_row 174 = .ok (.getfield 87, 3) := by decide +kernel
theorem dX5_row_177 : decode cX5_row 177 = .ok (.iload 6, 2) := by decide +kernel
theorem dX5_row_179 : decode cX5_row 179 = .ok (.iconst 1, 1) := by decide +kernel
theorem dX5_row_180 : decode cX5_row 180 = .ok (.if_icmp .le 7, 3) := by decide +kernel
theorem dX5_row_183 : decode cX5_row 183 = .ok (.iconst 1, 1) := by decide +kernel
theorem dX5_row_184 : decode cX5_row 184 = .ok (.goto 4, 3) := by decide +kernel
theorem dX5_row_187 : decode cX5_row 187 = .ok (.iconst 0, 1) := by decide +kernel
theorem dX5_row_188 : decode cX5_row 188 = .ok (.bastore, 1) := by decide +kernel
theorem dX5_row_189 : decode cX5_row 189 = .ok (.aload_n 0, 1) := by decide +kernel
theorem dX5_row_190 : decode cX5_row 190 = .ok (.getfield 32, 3) := by decide +kernel
theorem dX5_row_193 : decode cX5_row 193 = .ok (.aload_n 0, 1) := by decide +kernel
theorem dX5_row_194 : decode cX5_row 194 = .ok (.getfield 87, 3) := by decide +kernel
theorem dX5_row_197 : decode cX5_row 197 = .ok (.iconst (-1), 1) := by decide +kernel
theorem dX5_row_198 : decode cX5_row 198 = .ok (.iastore, 1) := by decide +kernel
theorem dX5_row_199 : decode cX5_row 199 = .ok (.aload_n 0, 1) := by decide +kernel
theorem dX5_row_200 : decode cX5_row 200 = .ok (.getfield 35, 3) := by decide +kernel
theorem dX5_row_203 : decode cX5_row 203 = .ok (.aload_n 0, 1) := by decide +kernel
theorem dX5_row_204 : decode cX5_row 204 = .ok (.getfield 87, 3) := by decide +kernel
theorem dX5_row_207 : decode cX5_row 207 = .ok (.iconst (-1), 1) := by decide +kernel
theorem dX5_row_208 : decode cX5_row 208 = .ok (.iastore, 1) := by decide +kernel
theorem dX5_row_209 : decode cX5_row 209 = .ok (.aload_n 0, 1) := by decide +kernel
theorem dX5_row_210 : decode cX5_row 210 = .ok (.dup, 1) := by decide +kernel
theorem dX5_row_211 : decode cX5_row 211 = .ok (.getfield 87, 3) := by decide +kernel
theorem dX5_row_214 : decode cX5_row 214 = .ok (.iconst 1, 1) := by decide +kernel
theorem dX5_row_215 : decode cX5_row 215 = .ok (.iadd, 1) := by decide +kernel
theorem dX5_row_216 : decode cX5_row 216 = .ok (.putfield 87, 3) := by decide +kernel
theorem dX5_row_219 : decode cX5_row 219 = .ok (.aload_n 0, 1) := by decide +kernel
theorem dX5_row_220 : decode cX5_row 220 = .ok (.getfield 87, 3) := by decide +kernel
theorem dX5_row_223 : decode cX5_row 223 = .ok (.iconst 1, 1) := by decide +kernel
theorem dX5_row_224 : decode cX5_row 224 = .ok (.isub, 1) := by decide +kernel
theorem dX5_row_225 : decode cX5_row 225 = .ok (.ireturn, 1) := by decide +kernel
theorem dX5_values_0 : decode cX5_values 0 = .ok (.aload_n 0, 1) := by decide +kernel
theorem dX5_values_1 : decode cX5_values 1 = .ok (.iload_n 1, 1) := by decide +kernel
theorem dX5_values_2 : decode cX5_values 2 = .ok (.iconst 0, 1) := by decide +kernel
theorem dX5_values_3 : decode cX5_values 3 = .ok (.aload_n 0, 1) := by decide +kernel
theorem dX5_values_4 : decode cX5_values 4 = .ok (.getfield 87, 3) := by decide +kernel
theorem dX5_values_7 : decode cX5_values 7 = .ok (.iconst 1, 1) := by decide +kernel
theorem dX5_values_8 : decode cX5_values 8 = .ok (.isub, 1) := by decide +kernel
theorem dX5_values_9 : decode cX5_values 9 = .ok (.invokestatic 79, 3) := by decide +kernel
theorem dX5_values_12 : decode cX5_values 12 = .ok (.ifCond .ne 7, 3) := by decide +kernel
theorem dX5_values_15 : decode cX5_values 15 = .ok (.iconst 1, 1) := by decide +kernel
theorem dX5_values_16 : decode cX5_values 16 = .ok (.goto 4, 3) := by decide +kernel
theorem dX5_values_19 : decode cX5_values 19 = .ok (.iconst 0, 1) := by decide +kernel
theorem dX5_values_20 : decode cX5_values 20 = .ok (.iload_n 2, 1) := by decide +kernel
theorem dX5_values_21 : decode cX5_values 21 = .ok (.iconst (-1), 1) := by decide +kernel
theorem dX5_values_22 : decode cX5_values 22 = .ok (.sipush 9999, 3) := by decide +kernel
theorem dX5_values_25 : decode cX5_values 25 = .ok (.invokestatic 79, 3) := by decide +kernel
theorem dX5_values_28 : decode cX5_values 28 = .ok (.ifCond .eq 14, 3) := by decide +kernel
theorem dX5_values_31 : decode cX5_values 31 = .ok (.iload_n 3, 1) := by decide +kernel
theorem dX5_values_32 : decode cX5_values 32 = .ok (.iconst (-1), 1) := by decide +kernel
theorem dX5_values_33 : decode cX5_values 33 = .ok (.sipush 9999, 3) := by decide +kernel
theorem dX5_values_36 : decode cX5_values 36 = .ok (.invokestatic 79, 3) := by decide +kernel
theorem dX5_values_39 : decode cX5_values 39 = .ok (.ifCond .ne 7, 3) := by decide +kernel
theorem dX5_values_42 : decode cX5_values 42 = .ok (.iconst 1, 1) := by decide +kernel
theorem dX5_values_43 : decode cX5_values 43 = .ok (.goto 4, 3) := by decide +kernel
theorem dX5_values_46 : decode cX5_values 46 = .ok (.iconst 0, 1) := by decide +kernel
theorem dX5_values_47 : decode cX5_values 47 = .ok (.iconst 0, 1) := by decide +kernel
theorem dX5_values_48 : decode cX5_values 48 = .ok (.invokevirtual 90, 3) := by decide +kernel
theorem dX5_values_51 : decode cX5_values 51 = .ok (.ifCond .eq 4, 3) := by decide +kernel
theorem dX5_values_54 : decode cX5_values 54 = .ok (.return_, 1) := by decide +kernel
theorem dX5_values_55 : decode cX5_values 55 = .ok (.aload_n 0, 1) := by decide +kernel
theorem dX5_values_56 : decode cX5_values 56 = .ok (.getfield 32, 3) := by decide +kernel
theorem dX5_values_59 : decode cX5_values 59 = .ok (.iload_n 1, 1) := by decide +kernel
theorem dX5_values_60 : decode cX5_values 60 = .ok (.iload_n 2, 1) := by decide +kernel
theorem dX5_values_61 : decode cX5_values 61 = .ok (.iastore, 1) := by decide +kernel
theorem dX5_values_62 : decode cX5_values 62 = .ok (.aload_n 0, 1) := by decide +kernel
theorem dX5_values_63 : decode cX5_values 63 = .ok (.getfield 35, 3) := by decide +kernel
theorem dX5_values_66 : decode cX5_values 66 = .ok (.iload_n 1, 1) := by decide +kernel
theorem dX5_values_67 : decode cX5_values 67 = .ok (.iload_n 3, 1) := by decide +kernel
theorem dX5_values_68 : decode cX5_values 68 = .ok (.iastore, 1) := by decide +kernel
theorem dX5_values_69 : decode cX5_values 69 = .ok (.return_, 1) := by decide +kernel
theorem dX5_define_0 : decode cX5_define 0 = .ok (.aload_n 0, 1) := by decide +kernel
theorem dX5_define_1 : decode cX5_define 1 = .ok (.iload_n 1, 1) := by decide +kernel
theorem dX5_define_2 : decode cX5_define 2 = .ok (.invokestatic 83, 3) := by decide +kernel
theorem dX5_define_5 : decode cX5_define 5 = .ok (.ifCond .eq 14, 3) := by decide +kernel
theorem dX5_define_8 : decode cX5_define 8 = .ok (.iload_n 2, 1) := by decide +kernel
theorem dX5_define_9 : decode cX5_define 9 = .ok (.iconst 0, 1) := by decide +kernel
theorem dX5_define_10 : decode cX5_define 10 = .ok (.sipush 20000, 3) := by decide +kernel
theorem dX5_define_13 : decode cX5_define 13 = .ok (.invokestatic 79, 3) := by decide +kernel
theorem dX5_define_16 : decode cX5_define 16 = .ok (.ifCond .ne 7, 3) := by decide +kernel
theorem dX5_define_19 : decode cX5_define 19 = .ok (.iconst 1, 1) := by decide +kernel
theorem dX5_define_20 : decode cX5_define 20 = .ok (.goto 4, 3) := by decide +kernel
theorem dX5_define_23 : decode cX5_define 23 = .ok (.iconst 0, 1) := by decide +kernel
theorem dX5_define_24 : decode cX5_define 24 = .ok (.aload_n 0, 1) := by decide +kernel
theorem dX5_define_25 : decode cX5_define 25 = .ok (.getfield 94, 3) := by decide +kernel
theorem dX5_define_28 : decode cX5_define 28 = .ok (.bipush 6, 2) := by decide +kernel
theorem dX5_define_30 : decode cX5_define 30 = .ok (.if_icmp .ne 7, 3) := by decide +kernel
theorem dX5_define_33 : decode cX5_define 33 = .ok (.iconst 1, 1) := by decide +kernel
theorem dX5_define_34 : decode cX5_define 34 = .ok (.goto 4, 3) := by decide +kernel
theorem dX5_define_37 : decode cX5_define 37 = .ok (.iconst 0, 1) := by decide +kernel
theorem dX5_define_38 : decode cX5_define 38 = .ok (.iconst 0, 1) := by decide +kernel
theorem dX5_define_39 : decode cX5_define 39 = .ok (.invokevirtual 90, 3) := by decide +kernel
theorem dX5_define_42 : decode cX5_define 42 = .ok (.ifCond .eq 5, 3) := by decide +kernel
theorem dX5_define_45 : decode cX5_define 45 = .ok (.iconst 0, 1) := by decide +kernel
theorem dX5_define_46 : decode cX5_define 46 = .ok (.ireturn, 1) := by decide +kernel
theorem dX5_define_47 : decode cX5_define 47 = .ok (.aload_n 0, 1) := by decide +kernel
theorem dX5_define_48 : decode cX5_define 48 = .ok (.getfield 38, 3) := by decide +kernel
theorem dX5_define_51 : decode cX5_define 51 = .ok (.aload_n 0, 1) := by decide +kernel
theorem dX5_define_52 : decode cX5_define 52 = .ok (.getfield 94, 3) := by decide +kernel
theorem dX5_define_55 : decode cX5_define 55 = .ok (.iload_n 1, 1) := by decide +kernel
theorem dX5_define_56 : decode cX5_define 56 = .ok (.iastore, 1) := by decide +kernel
theorem dX5_define_57 : decode cX5_define 57 = .ok (.aload_n 0, 1) := by decide +kernel
theorem dX5_define_58 : decode cX5_define 58 = .ok (.getfield 41, 3) := by decide +kernel
theorem dX5_define_61 : decode cX5_define 61 = .ok (.aload_n 0, 1) := by decide +kernel
theorem dX5_define_62 : decode cX5_define 62 = .ok (.getfield 94, 3) := by decide +kernel
theorem dX5_define_65 : decode cX5_define 65 = .ok (.iload_n 2, 1) := by decide +kernel
theorem dX5_define_66 : decode cX5_define 66 = .ok (.iastore, 1) := by decide +kernel
theorem dX5_define_67 : decode cX5_define 67 = .ok (.aload_n 0, 1) := by decide +kernel
theorem dX5_define_68 : decode cX5_define 68 = .ok (.dup, 1) := by decide +kernel
theorem dX5_define_69 : decode cX5_define 69 = .ok (.getfield 94, 3) := by decide +kernel
theorem dX5_define_72 : decode cX5_define 72 = .ok (.iconst 1, 1) := by decide +kernel
theorem dX5_define_73 : decode cX5_define 73 = .ok (.iadd, 1) := by decide +kernel
theorem dX5_define_74 : decode cX5_define 74 = .ok (.putfield 94, 3) := by decide +kernel
theorem dX5_define_77 : decode cX5_define 77 = .ok (.aload_n 0, 1) := by decide +kernel
theorem dX5_define_78 : decode cX5_define 78 = .ok (.getfield 94, 3) := by decide +kernel
theorem dX5_define_81 : decode cX5_define 81 = .ok (.ireturn, 1) := by decide +kernel
theorem dX5_ask_0 : decode cX5_ask 0 = .ok (.aload_n 0, 1) := by decide +kernel
theorem dX5_ask_1 : decode cX5_ask 1 = .ok (.iload_n 3, 1) := by decide +kernel
theorem dX5_ask_2 : decode cX5_ask 2 = .ok (.iconst (-1), 1) := by decide +kernel
theorem dX5_ask_3 : decode cX5_ask 3 = .ok (.iconst 4, 1) := by decide +kernel
theorem dX5_ask_4 : decode cX5_ask 4 = .ok (.invokestatic 79, 3) := by decide +kernel
theorem dX5_ask_7 : decode cX5_ask 7 = .ok (.ifCond .eq 14, 3) := by decide +kernel
theorem dX5_ask_10 : decode cX5_ask 10 = .ok (.iload 4, 2) := by decide +kernel
theorem dX5_ask_12 : decode cX5_ask 12 = .ok (.iconst (-1), 1) := by decide +kernel
theorem dX5_ask_13 : decode cX5_ask 13 = .ok (.bipush 9, 2) := by decide +kernel
theorem dX5_ask_15 : decode cX5_ask 15 = .ok (.invokestatic 79, 3) := by decide +kernel
theorem dX5_ask_18 : decode cX5_ask 18 = .ok (.ifCond .ne 7, 3) := by decide +kernel
theorem dX5_ask_21 : decode cX5_ask 21 = .ok (.iconst 1, 1) := by decide +kernel
theorem dX5_ask_22 : decode cX5_ask 22 = .ok (.goto 4, 3) := by decide +kernel
theorem dX5_ask_25 : decode cX5_ask 25 = .ok (.iconst 0, 1) := by decide +kernel
theorem dX5_ask_26 : decode cX5_ask 26 = .ok (.iload_n 1, 1) := by decide +kernel
theorem dX5_ask_27 : decode cX5_ask 27 = .ok (.invokestatic 83, 3) := by decide +kernel
theorem dX5_ask_30 : decode cX5_ask 30 = .ok (.ifCond .eq 15, 3) := by decide +kernel
theorem dX5_ask_33 : decode cX5_ask 33 = .ok (.iload_n 2, 1) := by decide +kernel
theorem dX5_ask_34 : decode cX5_ask 34 = .ok (.invokestatic 83, 3) := by decide +kernel
theorem dX5_ask_37 : decode cX5_ask 37 = .ok (.ifCond .eq 8, 3) := by decide +kernel
theorem dX5_ask_40 : decode cX5_ask 40 = .ok (.iload_n 2, 1) := by decide +kernel
theorem dX5_ask_41 : decode cX5_ask 41 = .ok (.iload_n 1, 1) := by decide +kernel
theorem dX5_ask_42 : decode cX5_ask 42 = .ok (.if_icmp .ge 7, 3) := by decide +kernel
theorem dX5_ask_45 : decode cX5_ask 45 = .ok (.iconst 1, 1) := by decide +kernel
theorem dX5_ask_46 : decode cX5_ask 46 = .ok (.goto 4, 3) := by decide +kernel
theorem dX5_ask_49 : decode cX5_ask 49 = .ok (.iconst 0, 1) := by decide +kernel
theorem dX5_ask_50 : decode cX5_ask 50 = .ok (.iconst 0, 1) := by decide +kernel
theorem dX5_ask_51 : decode cX5_ask 51 = .ok (.invokevirtual 90, 3) := by decide +kernel
theorem dX5_ask_54 : decode cX5_ask 54 = .ok (.ifCond .eq 4, 3) := by decide +kernel
theorem dX5_ask_57 : decode cX5_ask 57 = .ok (.return_, 1) := by decide +kernel
theorem dX5_ask_58 : decode cX5_ask 58 = .ok (.aload_n 0, 1) := by decide +kernel
theorem dX5_ask_59 : decode cX5_ask 59 = .ok (.iload_n 1, 1) := by decide +kernel
theorem dX5_ask_60 : decode cX5_ask 60 = .ok (.putfield 97, 3) := by decide +kernel
theorem dX5_ask_63 : decode cX5_ask 63 = .ok (.aload_n 0, 1) := by decide +kernel
theorem dX5_ask_64 : decode cX5_ask 64 = .ok (.iload_n 2, 1) := by decide +kernel
theorem dX5_ask_65 : decode cX5_ask 65 = .ok (.putfield 44, 3) := by decide +kernel
theorem dX5_ask_68 : decode cX5_ask 68 = .ok (.aload_n 0, 1) := by decide +kernel
theorem dX5_ask_69 : decode cX5_ask 69 = .ok (.iload_n 3, 1) := by decide +kernel
theorem dX5_ask_70 : decode cX5_ask 70 = .ok (.putfield 48, 3) := by decide +kernel
theorem dX5_ask_73 : decode cX5_ask 73 = .ok (.aload_n 0, 1) := by decide +kernel
theorem dX5_ask_74 : decode cX5_ask 74 = .ok (.iload 4, 2) := by decide +kernel
theorem dX5_ask_76 : decode cX5_ask 76 = .ok (.putfield 51, 3) := by decide +kernel
theorem dX5_ask_79 : decode cX5_ask 79 = .ok (.return_, 1) := by decide +kernel
theorem dX5_fits_0 : decode cX5_fits 0 = .ok (.aload_n 0, 1) := by decide +kernel
theorem dX5_fits_1 : decode cX5_fits 1 = .ok (.getfield 29, 3) := by decide +kernel
theorem dX5_fits_4 : decode cX5_fits 4 = .ok (.iload_n 1, 1) := by decide +kernel
theorem dX5_fits_5 : decode cX5_fits 5 = .ok (.baload, 1) := by decide +kernel
theorem dX5_fits_6 : decode cX5_fits 6 = .ok (.ifCond .ne 53, 3) := by decide +kernel
theorem dX5_fits_9 : decode cX5_fits 9 = .ok (.aload_n 0, 1) := by decide +kernel
theorem dX5_fits_10 : decode cX5_fits 10 = .ok (.getfield 7, 3) := by decide +kernel
theorem dX5_fits_13 : decode cX5_fits 13 = .ok (.iload_n 1, 1) := by decide +kernel
theorem dX5_fits_14 : decode cX5_fits 14 = .ok (.iaload, 1) := by decide +kernel
theorem dX5_fits_15 : decode cX5_fits 15 = .ok (.iload_n 2, 1) := by decide +kernel
theorem dX5_fits_16 : decode cX5_fits 16 = .ok (.iload_n 3, 1) := by decide +kernel
theorem dX5_fits_17 : decode cX5_fits 17 = .ok (.invokestatic 79, 3) := by decide +kernel
theorem dX5_fits_20 : decode cX5_fits 20 = .ok (.ifCond .eq 39, 3) := by decide +kernel
theorem dX5_fits_23 : decode cX5_fits 23 = .ok (.iload 4, 2) := by decide +kernel
theorem dX5_fits_25 : decode cX5_fits 25 = .ok (.ifCond .lt 14, 3) := by decide +kernel
theorem dX5_fits_28 : decode cX5_fits 28 = .ok (.aload_n 0, 1) := by decide +kernel
theorem dX5_fits_29 : decode cX5_fits 29 = .ok (.getfield 16, 3) := by decide +kernel
theorem dX5_fits_32 : decode cX5_fits 32 = .ok (.iload_n 1, 1) := by decide +kernel
theorem dX5_fits_33 : decode cX5_fits 33 = .ok (.iaload, 1) := by decide +kernel
theorem dX5_fits_34 : decode cX5_fits 34 = .ok (.iload 4, 2) := by decide +kernel
theorem dX5_fits_36 : decode cX5_fits 36 = .ok (.if_icmp .ne 23, 3) := by decide +kernel
theorem dX5_fits_39 : decode cX5_fits 39 = .ok (.iload 5, 2) := by decide +kernel
theorem dX5_fits_41 : decode cX5_fits 41 = .ok (.ifCond .lt 14, 3) := by decide +kernel
theorem dX5_fits_44 : decode cX5_fits 44 = .ok (.aload_n 0, 1) := by decide +kernel
theorem dX5_fits_45 : decode cX5_fits 45 = .ok (.getfield 19, 3) := by decide +kernel
theorem dX5_fits_48 : decode cX5_fits 48 = .ok (.iload_n 1, 1) := by decide +kernel
theorem dX5_fits_49 : decode cX5_fits 49 = .ok (.iaload, 1) := by decide +kernel
theorem dX5_fits_50 : decode cX5_fits 50 = .ok (.iload 5, 2) := by decide +kernel
theorem dX5_fits_52 : decode cX5_fits 52 = .ok (.if_icmp .ne 7, 3) := by decide +kernel
theorem dX5_fits_55 : decode cX5_fits 55 = .ok (.iconst 1, 1) := by decide +kernel
theorem dX5_fits_56 : decode cX5_fits 56 = .ok (.goto 4, 3) := by decide +kernel
theorem dX5_fits_59 : decode cX5_fits 59 = .ok (.iconst 0, 1) := by decide +kernel
theorem dX5_fits_60 : decode cX5_fits 60 = .ok (.ireturn, 1) := by decide +kernel
theorem dX5_isAsked_0 : decode cX5_isAsked 0 = .ok (.aload_n 0, 1) := by decide +kernel
theorem dX5_isAsked_1 : decode cX5_isAsked 1 = .ok (.iload_n 1, 1) := by decide +kernel
theorem dX5_isAsked_2 : decode cX5_isAsked 2 = .ok (.aload_n 0, 1) := by decide +kernel
theorem dX5_isAsked_3 : decode cX5_isAsked 3 = .ok (.getfield 97, 3) := by decide +kernel
theorem dX5_isAsked_6 : decode cX5_isAsked 6 = .ok (.aload_n 0, 1) := by decide +kernel
theorem dX5_isAsked_7 : decode cX5_isAsked 7 = .ok (.getfield 44, 3) := by decide +kernel
theorem dX5_isAsked_10 : decode cX5_isAsked 10 = .ok (.aload_n 0, 1) := by decide +kernel
theorem dX5_isAsked_11 : decode cX5_isAsked 11 = .ok (.getfield 48, 3) := by decide +kernel
theorem dX5_isAsked_14 : decode cX5_isAsked 14 = .ok (.aload_n 0, 1) := by decide +kernel
theorem dX5_isAsked_15 : decode cX5_isAsked 15 = .ok (.getfield 51, 3) := by decide +kernel
theorem dX5_isAsked_18 : decode cX5_isAsked 18 = .ok (.invokevirtual 100, 3) := by decide +kernel
theorem dX5_isAsked_21 : decode cX5_isAsked 21 = .ok (.ireturn, 1) := by decide +kernel
theorem dX5_hasBoth_0 : decode cX5_hasBoth 0 = .ok (.aload_n 0, 1) := by decide +kernel
theorem dX5_hasBoth_1 : decode cX5_hasBoth 1 = .ok (.getfield 32, 3) := by decide +kernel
theorem dX5_hasBoth_4 : decode cX5_hasBoth 4 = .ok (.iload_n 1, 1) := by decide +kernel
theorem dX5_hasBoth_5 : decode cX5_hasBoth 5 = .ok (.iaload, 1) := by decide +kernel
theorem dX5_hasBoth_6 : decode cX5_hasBoth 6 = .ok (.ifCond .lt 16, 3) := by decide +kernel
theorem dX5_hasBoth_9 : decode cX5_hasBoth 9 = .ok (.aload_n 0, 1) := by decide +kernel
theorem dX5_hasBoth_10 : decode cX5_hasBoth 10 = .ok (.getfield 35, 3) := by decide +kernel
theorem dX5_hasBoth_13 : decode cX5_hasBoth 13 = .ok (.iload_n 1, 1) := by decide +kernel
theorem dX5_hasBoth_14 : decode cX5_hasBoth 14 = .ok (.iaload, 1) := by decide +kernel
theorem dX5_hasBoth_15 : decode cX5_hasBoth 15 = .ok (.ifCond .lt 7, 3) := by decide +kernel
theorem dX5_hasBoth_18 : decode cX5_hasBoth 18 = .ok (.iconst 1, 1) := by decide +kernel
theorem dX5_hasBoth_19 : decode cX5_hasBoth 19 = .ok (.goto 4, 3) := by decide +kernel
theorem dX5_hasBoth_22 : decode cX5_hasBoth 22 = .ok (.iconst 0, 1) := by decide +kernel
theorem dX5_hasBoth_23 : decode cX5_hasBoth 23 = .ok (.ireturn, 1) := by decide +kernel
theorem dX5_markOf_0 : decode cX5_markOf 0 = .ok (.iconst (-1), 1) := by decide +kernel
theorem dX5_markOf_1 : decode cX5_markOf 1 = .ok (.istore_n 2, 1) := by decide +kernel
theorem dX5_markOf_2 : decode cX5_markOf 2 = .ok (.iconst 0, 1) := by decide +kernel
theorem dX5_markOf_3 : decode cX5_markOf 3 = .ok (.istore_n 3, 1) := by decide +kernel
theorem dX5_markOf_4 : decode cX5_markOf 4 = .ok (.iload_n 3, 1) := by decide +kernel
theorem dX5_markOf_5 : decode cX5_markOf 5 = .ok (.aload_n 0, 1) := by decide +kernel
theorem dX5_markOf_6 : decode cX5_markOf 6 = .ok (.getfield 94, 3) := by decide +kernel
theorem dX5_markOf_9 : decode cX5_markOf 9 = .ok (.if_icmp .ge 40, 3) := by decide +kernel
theorem dX5_markOf_12 : decode cX5_markOf 12 = .ok (.aload_n 0, 1) := by decide +kernel
theorem dX5_markOf_13 : decode cX5_markOf 13 = .ok (.getfield 38, 3) := by decide +kernel
theorem dX5_markOf_16 : decode cX5_markOf 16 = .ok (.iload_n 3, 1) := by decide +kernel
theorem dX5_markOf_17 : decode cX5_markOf 17 = .ok (.iaload, 1) := by decide +kernel
theorem dX5_markOf_18 : decode cX5_markOf 18 = .ok (.iload_n 1, 1) := by decide +kernel
theorem dX5_markOf_19 : decode cX5_markOf 19 = .ok (.if_icmp .gt 24, 3) := by decide +kernel
theorem dX5_markOf_22 : decode cX5_markOf 22 = .ok (.iload_n 2, 1) := by decide +kernel
theorem dX5_markOf_23 : decode cX5_markOf 23 = .ok (.ifCond .lt 18, 3) := by decide +kernel
theorem dX5_markOf_26 : decode cX5_markOf 26 = .ok (.aload_n 0, 1) := by decide +kernel
theorem dX5_markOf_27 : decode cX5_markOf 27 = .ok (.getfield 38, 3) := by decide +kernel
theorem dX5_markOf_30 : decode cX5_markOf 30 = .ok (.iload_n 3, 1) := by decide +kernel
theorem dX5_markOf_31 : decode cX5_markOf 31 = .ok (.iaload, 1) := by decide +kernel
theorem dX5_markOf_32 : decode cX5_markOf 32 = .ok (.aload_n 0, 1) := by decide +kernel
theorem dX5_markOf_33 : decode cX5_markOf 33 = .ok (.getfield 38, 3) := by decide +kernel
theorem dX5_markOf_36 : decode cX5_markOf 36 = .ok (.iload_n 2, 1) := by decide +kernel
theorem dX5_markOf_37 : decode cX5_markOf 37 = .ok (.iaload, 1) := by decide +kernel
theorem dX5_markOf_38 : decode cX5_markOf 38 = .ok (.if_icmp .lt 5, 3) := by decide +kernel
theorem dX5_markOf_41 : decode cX5_markOf 41 = .ok (.iload_n 3, 1) := by decide +kernel
theorem dX5_markOf_42 : decode cX5_markOf 42 = .ok (.istore_n 2, 1) := by decide +kernel
theorem dX5_markOf_43 : decode cX5_markOf 43 = .ok (.iinc 3 1, 3) := by decide +kernel
theorem dX5_markOf_46 : decode cX5_markOf 46 = .ok (.goto (-42), 3) := by decide +kernel
theorem dX5_markOf_49 : decode cX5_markOf 49 = .ok (.iload_n 2, 1) := by decide +kernel
theorem dX5_markOf_50 : decode cX5_markOf 50 = .ok (.ifCond .ge 7, 3) := by decide +kernel
theorem dX5_markOf_53 : decode cX5_markOf 53 = .ok (.iconst (-1), 1) := by decide +kernel
theorem dX5_markOf_54 : decode cX5_markOf 54 = .ok (.goto 9, 3) := by decide +kernel
theorem dX5_markOf_57 : decode cX5_markOf 57 = .ok (.aload_n 0, 1) := by decide +kernel
theorem dX5_markOf_58 : decode cX5_markOf 58 = .ok (.getfield 41, 3) := by decide +kernel
theorem dX5_markOf_61 : decode cX5_markOf 61 = .ok (.iload_n 2, 1) := by decide +kernel
theorem dX5_markOf_62 : decode cX5_markOf 62 = .ok (.iaload, 1) := by decide +kernel
theorem dX5_markOf_63 : decode cX5_markOf 63 = .ok (.ireturn, 1) := by decide +kernel
theorem dX5_isWithout_0 : decode cX5_isWithout 0 = .ok (.aload_n 0, 1) := by decide +kernel
theorem dX5_isWithout_1 : decode cX5_isWithout 1 = .ok (.iload_n 1, 1) := by decide +kernel
theorem dX5_isWithout_2 : decode cX5_isWithout 2 = .ok (.invokevirtual 104, 3) := by decide +kernel
theorem dX5_isWithout_5 : decode cX5_isWithout 5 = .ok (.ifCond .eq 16, 3) := by decide +kernel
theorem dX5_isWithout_8 : decode cX5_isWithout 8 = .ok (.aload_n 0, 1) := by decide +kernel
theorem dX5_isWithout_9 : decode cX5_isWithout 9 = .ok (.aload_n 0, 1) := by decide +kernel
theorem dX5_isWithout_10 : decode cX5_isWithout 10 = .ok (.getfield 7, 3) := by decide +kernel
theorem dX5_isWithout_13 : decode cX5_isWithout 13 = .ok (.iload_n 1, 1) := by decide +kernel
theorem dX5_isWithout_14 : decode cX5_isWithout 14 = .ok (.iaload, 1) := by decide +kernel
theorem dX5_isWithout_15 : decode cX5_isWithout 15 = .ok (.invokevirtual 107, 3) := by decide +kernel
theorem dX5_isWithout_18 : decode cX5_isWithout 18 = .ok (.ifCond .ge 7, 3) := by decide +kernel
theorem dX5_isWithout_21 : decode cX5_isWithout 21 = .ok (.iconst 1, 1) := by decide +kernel
theorem dX5_isWithout_22 : decode cX5_isWithout 22 = .ok (.goto 4, 3) := by decide +kernel
theorem dX5_isWithout_25 : decode cX5_isWithout 25 = .ok (.iconst 0, 1) := by decide +kernel
theorem dX5_isWithout_26 : decode cX5_isWithout 26 = .ok (.ireturn, 1) := by decide +kernel
theorem dX5_isWithin_0 : decode cX5_isWithin 0 = .ok (.aload_n 0, 1) := by decide +kernel
theorem dX5_isWithin_1 : decode cX5_isWithin 1 = .ok (.iload_n 1, 1) := by decide +kernel
theorem dX5_isWithin_2 : decode cX5_isWithin 2 = .ok (.invokevirtual 111, 3) := by decide +kernel
theorem dX5_isWithin_5 : decode cX5_isWithin 5 = .ok (.ifCond .ne 33, 3) := by decide +kernel
theorem dX5_isWithin_8 : decode cX5_isWithin 8 = .ok (.aload_n 0, 1) := by decide +kernel
theorem dX5_isWithin_9 : decode cX5_isWithin 9 = .ok (.getfield 32, 3) := by decide +kernel
theorem dX5_isWithin_12 : decode cX5_isWithin 12 = .ok (.iload_n 1, 1) := by decide +kernel
theorem dX5_isWithin_13 : decode cX5_isWithin 13 = .ok (.iaload, 1) := by decide +kernel
theorem dX5_isWithin_14 : decode cX5_isWithin 14 = .ok (.aload_n 0, 1) := by decide +kernel
theorem dX5_isWithin_15 : decode cX5_isWithin 15 = .ok (.getfield 35, 3) := by decide +kernel
theorem dX5_isWithin_18 : decode cX5_isWithin 18 = .ok (.iload_n 1, 1) := by decide +kernel
theorem dX5_isWithin_19 : decode cX5_isWithin 19 = .ok (.iaload, 1) := by decide +kernel
theorem dX5_isWithin_20 : decode cX5_isWithin 20 = .ok (.iadd, 1) := by decide +kernel
theorem dX5_isWithin_21 : decode cX5_isWithin 21 = .ok (.aload_n 0, 1) := by decide +kernel
theorem dX5_isWithin_22 : decode cX5_isWithin 22 = .ok (.aload_n 0, 1) := by decide +kernel
theorem dX5_isWithin_23 : decode cX5_isWithin 23 = .ok (.getfield 7, 3) := by decide +kernel
theorem dX5_isWithin_26 : decode cX5_isWithin 26 = .ok (.iload_n 1, 1) := by decide +kernel
theorem dX5_isWithin_27 : decode cX5_isWithin 27 = .ok (.iaload, 1) := by decide +kernel
theorem dX5_isWithin_28 : decode cX5_isWithin 28 = .ok (.invokevirtual 107, 3) := by decide +kernel
theorem dX5_isWithin_31 : decode cX5_isWithin 31 = .ok (.if_icmp .gt 7, 3) := by decide +kernel
theorem dX5_isWithin_34 : decode cX5_isWithin 34 = .ok (.iconst 1, 1) := by decide +kernel
theorem dX5_isWithin_35 : decode cX5_isWithin 35 = .ok (.goto 4, 3) := by decide +kernel
theorem dX5_isWithin_38 : decode cX5_isWithin 38 = .ok (.iconst 0, 1) := by decide +kernel
theorem dX5_isWithin_39 : decode cX5_isWithin 39 = .ok (.ireturn, 1) := by decide +kernel
theorem dX5_sharesOf_0 : decode cX5_sharesOf 0 = .ok (.iconst 0, 1) := by decide +kernel
theorem dX5_sharesOf_1 : decode cX5_sharesOf 1 = .ok (.istore 4, 2) := by decide +kernel
theorem dX5_sharesOf_3 : decode cX5_sharesOf 3 = .ok (.iconst 0, 1) := by decide +kernel
theorem dX5_sharesOf_4 : decode cX5_sharesOf 4 = .ok (.istore 5, 2) := by decide +kernel
theorem dX5_sharesOf_6 : decode cX5_sharesOf 6 = .ok (.iload 5, 2) := by decide +kernel
theorem dX5_sharesOf_8 : decode cX5_sharesOf 8 = .ok (.aload_n 0, 1) := by decide +kernel
theorem dX5_sharesOf_9 : decode cX5_sharesOf 9 = .ok (.getfield 87, 3) := by decide +kernel
theorem dX5_sharesOf_12 : decode cX5_sharesOf 12 = .ok (.if_icmp .ge 63, 3) := by decide +kernel
theorem dX5_sharesOf_15 : decode cX5_sharesOf 15 = .ok (.aload_n 0, 1) := by decide +kernel
theorem dX5_sharesOf_16 : decode cX5_sharesOf 16 = .ok (.iload 5, 2) := by decide +kernel
theorem dX5_sharesOf_18 : decode cX5_sharesOf 18 = .ok (.iload_n 1, 1) := by decide +kernel
theorem dX5_sharesOf_19 : decode cX5_sharesOf 19 = .ok (.iload_n 2, 1) := by decide +kernel
theorem dX5_sharesOf_20 : decode cX5_sharesOf 20 = .ok (.aload_n 0, 1) := by decide +kernel
theorem dX5_sharesOf_21 : decode cX5_sharesOf 21 = .ok (.getfield 48, 3) := by decide +kernel
theorem dX5_sharesOf_24 : decode cX5_sharesOf 24 = .ok (.aload_n 0, 1) := by decide +kernel
theorem dX5_sharesOf_25 : decode cX5_sharesOf 25 = .ok (.getfield 51, 3) := by decide +kernel
theorem dX5_sharesOf_28 : decode cX5_sharesOf 28 = .ok (.invokevirtual 100, 3) := by decide +kernel
theorem dX5_sharesOf_31 : decode cX5_sharesOf 31 = .ok (.ifCond .eq 38, 3) := by decide +kernel
theorem dX5_sharesOf_34 : decode cX5_sharesOf 34 = .ok (.iload 4, 2) := by decide +kernel
theorem dX5_sharesOf_36 : decode cX5_sharesOf 36 = .ok (.iload_n 3, 1) := by decide +kernel
theorem dX5_sharesOf_37 : decode cX5_sharesOf 37 = .ok (.ifCond .ne 15, 3) := by decide +kernel
theorem dX5_sharesOf_40 : decode cX5_sharesOf 40 = .ok (.aload_n 0, 1) := by decide +kernel
theorem dX5_sharesOf_41 : decode cX5_sharesOf 41 = .ok (.iload 5, 2) := by decide +kernel
theorem dX5_sharesOf_43 : decode cX5_sharesOf 43 = .ok (.invokevirtual 114, 3) := by decide +kernel
theorem dX5_sharesOf_46 : decode cX5_sharesOf 46 = .ok (.ifCond .eq 19, 3) := by decide +kernel
theorem dX5_sharesOf_49 : decode cX5_sharesOf 49 = .ok (.goto 12, 3) := by decide +kernel
theorem dX5_sharesOf_52 : decode cX5_sharesOf 52 = .ok (.aload_n 0, 1) := by decide +kernel
theorem dX5_sharesOf_53 : decode cX5_sharesOf 53 = .ok (.iload 5, 2) := by decide +kernel
theorem dX5_sharesOf_55 : decode cX5_sharesOf 55 = .ok (.invokevirtual 111, 3) := by decide +kernel
theorem dX5_sharesOf_58 : decode cX5_sharesOf 58 = .ok (.ifCond .ne 7, 3) := by decide +kernel
theorem dX5_sharesOf_61 : decode cX5_sharesOf 61 = .ok (.iconst 1, 1) := by decide +kernel
theorem dX5_sharesOf_62 : decode cX5_sharesOf 62 = .ok (.goto 4, 3) := by decide +kernel
theorem dX5_sharesOf_65 : decode cX5_sharesOf 65 = .ok (.iconst 0, 1) := by decide +kernel
theorem dX5_sharesOf_66 : decode cX5_sharesOf 66 = .ok (.iadd, 1) := by decide +kernel
theorem dX5_sharesOf_67 : decode cX5_sharesOf 67 = .ok (.istore 4, 2) := by decide +kernel
theorem dX5_sharesOf_69 : decode cX5_sharesOf 69 = .ok (.iinc 5 1, 3) := by decide +kernel
theorem dX5_sharesOf_72 : decode cX5_sharesOf 72 = .ok (.goto (-66), 3) := by decide +kernel
theorem dX5_sharesOf_75 : decode cX5_sharesOf 75 = .ok (.iload 4, 2) := by decide +kernel
theorem dX5_sharesOf_77 : decode cX5_sharesOf 77 = .ok (.ireturn, 1) := by decide +kernel
theorem dX5_count_0 : decode cX5_count 0 = .ok (.aload_n 0, 1) := by decide +kernel
theorem dX5_count_1 : decode cX5_count 1 = .ok (.iload_n 1, 1) := by decide +kernel
theorem dX5_count_2 : decode cX5_count 2 = .ok (.iconst 0, 1) := by decide +kernel
theorem dX5_count_3 : decode cX5_count 3 = .ok (.iconst 4, 1) := by decide +kernel
theorem dX5_count_4 : decode cX5_count 4 = .ok (.invokestatic 79, 3) := by decide +kernel
theorem dX5_count_7 : decode cX5_count 7 = .ok (.ifCond .ne 7, 3) := by decide +kernel
theorem dX5_count_10 : decode cX5_count 10 = .ok (.iconst 1, 1) := by decide +kernel
theorem dX5_count_11 : decode cX5_count 11 = .ok (.goto 4, 3) := by decide +kernel
theorem dX5_count_14 : decode cX5_count 14 = .ok (.iconst 0, 1) := by decide +kernel
theorem dX5_count_15 : decode cX5_count 15 = .ok (.iconst 0, 1) := by decide +kernel
theorem dX5_count_16 : decode cX5_count 16 = .ok (.iconst 0, 1) := by decide +kernel
theorem dX5_count_17 : decode cX5_count 17 = .ok (.invokevirtual 90, 3) := by decide +kernel
theorem dX5_count_20 : decode cX5_count 20 = .ok (.ifCond .eq 5, 3) := by decide +kernel
theorem dX5_count_23 : decode cX5_count 23 = .ok (.iconst 0, 1) := by decide +kernel
theorem dX5_count_24 : decode cX5_count 24 = .ok (.ireturn, 1) := by decide +kernel
theorem dX5_count_25 : decode cX5_count 25 = .ok (.iconst 0, 1) := by decide +kernel
theorem dX5_count_26 : decode cX5_count 26 = .ok (.istore_n 2, 1) := by decide +kernel
theorem dX5_count_27 : decode cX5_count 27 = .ok (.iconst 0, 1) := by decide +kernel
theorem dX5_count_28 : decode cX5_count 28 = .ok (.istore_n 3, 1) := by decide +kernel
theorem dX5_count_29 : decode cX5_count 29 = .ok (.iload_n 3, 1) := by decide +kernel
theorem dX5_count_30 : decode cX5_count 30 = .ok (.aload_n 0, 1) := by decide +kernel
theorem dX5_count_31 : decode cX5_count 31 = .ok (.getfield 87, 3) := by decide +kernel
theorem dX5_count_34 : decode cX5_count 34 = .ok (.if_icmp .ge 108, 3) := by decide +kernel
theorem dX5_count_37 : decode cX5_count 37 = .ok (.aload_n 0, 1) := by decide +kernel
theorem dX5_count_38 : decode cX5_count 38 = .ok (.iload_n 3, 1) := by decide +kernel
theorem dX5_count_39 : decode cX5_count 39 = .ok (.invokevirtual 117, 3) := by decide +kernel
theorem dX5_count_42 : decode cX5_count 42 = .ok (.ifCond .eq 94, 3) := by decide +kernel
theorem dX5_count_45 : decode cX5_count 45 = .ok (.iload_n 1, 1) := by decide +kernel
theorem dX5_count_46 : decode cX5_count 46 = .ok (.ifCond .eq 43, 3) := by decide +kernel
theorem dX5_count_49 : decode cX5_count 49 = .ok (.iload_n 1, 1) := by decide +kernel
theorem dX5_count_50 : decode cX5_count 50 = .ok (.iconst 1, 1) := by decide +kernel
theorem dX5_count_51 : decode cX5_count 51 = .ok (.if_icmp .ne 12, 3) := by decide +kernel
theorem dX5_count_54 : decode cX5_count 54 = .ok (.aload_n 0, 1) := by decide +kernel
theorem dX5_count_55 : decode cX5_count 55 = .ok (.getfield 25, 3) := by decide +kernel
theorem dX5_count_58 : decode cX5_count 58 = .ok (.iload_n 3, 1) := by decide +kernel
theorem dX5_count_59 : decode cX5_count 59 = .ok (.baload, 1) := by decide +kernel
theorem dX5_count_60 : decode cX5_count 60 = .ok (.ifCond .ne 29, 3) := by decide +kernel
theorem dX5_count_63 : decode cX5_count 63 = .ok (.iload_n 1, 1) := by decide +kernel
theorem dX5_count_64 : decode cX5_count 64 = .ok (.iconst 2, 1) := by decide +kernel
theorem dX5_count_65 : decode cX5_count 65 = .ok (.if_icmp .ne 11, 3) := by decide +kernel
theorem dX5_count_68 : decode cX5_count 68 = .ok (.aload_n 0, 1) := by decide +kernel
theorem dX5_count_69 : decode cX5_count 69 = .ok (.iload_n 3, 1) := by decide +kernel
theorem dX5_count_70 : decode cX5_count 70 = .ok (.invokevirtual 114, 3) := by decide +kernel
theorem dX5_count_73 : decode cX5_count 73 = .ok (.ifCond .ne 16, 3) := by decide +kernel
theorem dX5_count_76 : decode cX5_count 76 = .ok (.iload_n 1, 1) := by decide +kernel
theorem dX5_count_77 : decode cX5_count 77 = .ok (.iconst 3, 1) := by decide +kernel
theorem dX5_count_78 : decode cX5_count 78 = .ok (.if_icmp .ne 15, 3) := by decide +kernel
theorem dX5_count_81 : decode cX5_count 81 = .ok (.aload_n 0, 1) := by decide +kernel
theorem dX5_count_82 : decode cX5_count 82 = .ok (.iload_n 3, 1) := by decide +kernel
theorem dX5_count_83 : decode cX5_count 83 = .ok (.invokevirtual 111, 3) := by decide +kernel
theorem dX5_count_86 : decode cX5_count 86 = .ok (.ifCond .eq 7, 3) := by decide +kernel
theorem dX5_count_89 : decode cX5_count 89 = .ok (.iconst 1, 1) := by decide +kernel
theorem dX5_count_90 : decode cX5_count 90 = .ok (.goto 4, 3) := by decide +kernel
theorem dX5_count_93 : decode cX5_count 93 = .ok (.iconst 0, 1) := by decide +kernel
theorem dX5_count_94 : decode cX5_count 94 = .ok (.istore 4, 2) := by decide +kernel
theorem dX5_count_96 : decode cX5_count 96 = .ok (.iload_n 2, 1) := by decide +kernel
theorem dX5_count_97 : decode cX5_count 97 = .ok (.iload_n 1, 1) := by decide +kernel
theorem dX5_count_98 : decode cX5_count 98 = .ok (.iconst 4, 1) := by decide +kernel
theorem dX5_count_99 : decode cX5_count 99 = .ok (.if_icmp .ne 25, 3) := by decide +kernel
theorem dX5_count_102 : decode cX5_count 102 = .ok (.aload_n 0, 1) := by decide +kernel
theorem dX5_count_103 : decode cX5_count 103 = .ok (.getfield 32, 3) := by decide +kernel
theorem dX5_count_106 : decode cX5_count 106 = .ok (.iload_n 3, 1) := by decide +kernel
theorem dX5_count_107 : decode cX5_count 107 = .ok (.iaload, 1) := by decide +kernel
theorem dX5_count_108 : decode cX5_count 108 = .ok (.ifCond .le 12, 3) := by decide +kernel
theorem dX5_count_111 : decode cX5_count 111 = .ok (.aload_n 0, 1) := by decide +kernel
theorem dX5_count_112 : decode cX5_count 112 = .ok (.getfield 32, 3) := by decide +kernel
theorem dX5_count_115 : decode cX5_count 115 = .ok (.iload_n 3, 1) := by decide +kernel
theorem dX5_count_116 : decode cX5_count 116 = .ok (.iaload, 1) := by decide +kernel
theorem dX5_count_117 : decode cX5_count 117 = .ok (.goto 17, 3) := by decide +kernel
theorem dX5_count_120 : decode cX5_count 120 = .ok (.iconst 0, 1) := by decide +kernel
theorem dX5_count_121 : decode cX5_count 121 = .ok (.goto 13, 3) := by decide +kernel
theorem dX5_count_124 : decode cX5_count 124 = .ok (.iload 4, 2) := by decide +kernel
theorem dX5_count_126 : decode cX5_count 126 = .ok (.ifCond .eq 7, 3) := by decide +kernel
theorem dX5_count_129 : decode cX5_count 129 = .ok (.iconst 1, 1) := by decide +kernel
theorem dX5_count_130 : decode cX5_count 130 = .ok (.goto 4, 3) := by decide +kernel
theorem dX5_count_133 : decode cX5_count 133 = .ok (.iconst 0, 1) := by decide +kernel
theorem dX5_count_134 : decode cX5_count 134 = .ok (.iadd, 1) := by decide +kernel
theorem dX5_count_135 : decode cX5_count 135 = .ok (.istore_n 2, 1) := by decide +kernel
theorem dX5_count_136 : decode cX5_count 136 = .ok (.iinc 3 1, 3) := by decide +kernel
theorem dX5_count_139 : decode cX5_count 139 = .ok (.goto (-110), 3) := by decide +kernel
theorem dX5_count_142 : decode cX5_count 142 = .ok (.iload_n 2, 1) := by decide +kernel
theorem dX5_count_143 : decode cX5_count 143 = .ok (.ireturn, 1) := by decide +kernel
theorem dX5_hour_0 : decode cX5_hour 0 = .ok (.aload_n 0, 1) := by decide +kernel
theorem dX5_hour_1 : decode cX5_hour 1 = .ok (.iload_n 1, 1) := by decide +kernel
theorem dX5_hour_2 : decode cX5_hour 2 = .ok (.iconst 0, 1) := by decide +kernel
theorem dX5_hour_3 : decode cX5_hour 3 = .ok (.bipush 23, 2) := by decide +kernel
theorem dX5_hour_5 : decode cX5_hour 5 = .ok (.invokestatic 79, 3) := by decide +kernel
theorem dX5_hour_8 : decode cX5_hour 8 = .ok (.ifCond .ne 7, 3) := by decide +kernel
theorem dX5_hour_11 : decode cX5_hour 11 = .ok (.iconst 1, 1) := by decide +kernel
theorem dX5_hour_12 : decode cX5_hour 12 = .ok (.goto 4, 3) := by decide +kernel
theorem dX5_hour_15 : decode cX5_hour 15 = .ok (.iconst 0, 1) := by decide +kernel
theorem dX5_hour_16 : decode cX5_hour 16 = .ok (.iconst 0, 1) := by decide +kernel
theorem dX5_hour_17 : decode cX5_hour 17 = .ok (.iconst 0, 1) := by decide +kernel
theorem dX5_hour_18 : decode cX5_hour 18 = .ok (.invokevirtual 90, 3) := by decide +kernel
theorem dX5_hour_21 : decode cX5_hour 21 = .ok (.ifCond .eq 5, 3) := by decide +kernel
theorem dX5_hour_24 : decode cX5_hour 24 = .ok (.iconst 0, 1) := by decide +kernel
theorem dX5_hour_25 : decode cX5_hour 25 = .ok (.ireturn, 1) := by decide +kernel
theorem dX5_hour_26 : decode cX5_hour 26 = .ok (.iconst 0, 1) := by decide +kernel
theorem dX5_hour_27 : decode cX5_hour 27 = .ok (.istore_n 2, 1) := by decide +kernel
theorem dX5_hour_28 : decode cX5_hour 28 = .ok (.iconst 0, 1) := by decide +kernel
theorem dX5_hour_29 : decode cX5_hour 29 = .ok (.istore_n 3, 1) := by decide +kernel
theorem dX5_hour_30 : decode cX5_hour 30 = .ok (.iload_n 3, 1) := by decide +kernel
theorem dX5_hour_31 : decode cX5_hour 31 = .ok (.aload_n 0, 1) := by decide +kernel
theorem dX5_hour_32 : decode cX5_hour 32 = .ok (.getfield 87, 3) := by decide +kernel
theorem dX5_hour_35 : decode cX5_hour 35 = .ok (.if_icmp .ge 35, 3) := by decide +kernel
theorem dX5_hour_38 : decode cX5_hour 38 = .ok (.iload_n 2, 1) := by decide +kernel
theorem dX5_hour_39 : decode cX5_hour 39 = .ok (.aload_n 0, 1) := by decide +kernel
theorem dX5_hour_40 : decode cX5_hour 40 = .ok (.iload_n 3, 1) := by decide +kernel
theorem dX5_hour_41 : decode cX5_hour 41 = .ok (.invokevirtual 117, 3) := by decide +kernel
theorem dX5_hour_44 : decode cX5_hour 44 = .ok (.ifCond .eq 17, 3) := by decide +kernel
theorem dX5_hour_47 : decode cX5_hour 47 = .ok (.aload_n 0, 1) := by decide +kernel
theorem dX5_hour_48 : decode cX5_hour 48 = .ok (.getfield 13, 3) := by decide +kernel
theorem dX5_hour_51 : decode cX5_hour 51 = .ok (.iload_n 3, 1) := by decide +kernel
theorem dX5_hour_52 : decode cX5_hour 52 = .ok (.iaload, 1) := by decide +kernel
theorem dX5_hour_53 : decode cX5_hour 53 = .ok (.iload_n 1, 1) := by decide +kernel
theorem dX5_hour_54 : decode cX5_hour 54 = .ok (.if_icmp .ne 7, 3) := by decide +kernel
theorem dX5_hour_57 : decode cX5_hour 57 = .ok (.iconst 1, 1) := by decide +kernel
theorem dX5_hour_58 : decode cX5_hour 58 = .ok (.goto 4, 3) := by decide +kernel
theorem dX5_hour_61 : decode cX5_hour 61 = .ok (.iconst 0, 1) := by decide +kernel
theorem dX5_hour_62 : decode cX5_hour 62 = .ok (.iadd, 1) := by decide +kernel
theorem dX5_hour_63 : decode cX5_hour 63 = .ok (.istore_n 2, 1) := by decide +kernel
theorem dX5_hour_64 : decode cX5_hour 64 = .ok (.iinc 3 1, 3) := by decide +kernel
theorem dX5_hour_67 : decode cX5_hour 67 = .ok (.goto (-37), 3) := by decide +kernel
theorem dX5_hour_70 : decode cX5_hour 70 = .ok (.iload_n 2, 1) := by decide +kernel
theorem dX5_hour_71 : decode cX5_hour 71 = .ok (.ireturn, 1) := by decide +kernel
theorem dX5_common_0 : decode cX5_common 0 = .ok (.iload_n 0, 1) := by decide +kernel
theorem dX5_common_1 : decode cX5_common 1 = .ok (.istore_n 2, 1) := by decide +kernel
theorem dX5_common_2 : decode cX5_common 2 = .ok (.iload_n 1, 1) := by decide +kernel
theorem dX5_common_3 : decode cX5_common 3 = .ok (.istore_n 3, 1) := by decide +kernel
theorem dX5_common_4 : decode cX5_common 4 = .ok (.iload_n 3, 1) := by decide +kernel
theorem dX5_common_5 : decode cX5_common 5 = .ok (.ifCond .le 16, 3) := by decide +kernel
theorem dX5_common_8 : decode cX5_common 8 = .ok (.iload_n 2, 1) := by decide +kernel
theorem dX5_common_9 : decode cX5_common 9 = .ok (.iload_n 3, 1) := by decide +kernel
theorem dX5_common_10 : decode cX5_common 10 = .ok (.irem, 1) := by decide +kernel
theorem dX5_common_11 : decode cX5_common 11 = .ok (.istore 4, 2) := by decide +kernel
theorem dX5_common_13 : decode cX5_common 13 = .ok (.iload_n 3, 1) := by decide +kernel
theorem dX5_common_14 : decode cX5_common 14 = .ok (.istore_n 2, 1) := by decide +kernel
theorem dX5_common_15 : decode cX5_common 15 = .ok (.iload 4, 2) := by decide +kernel
theorem dX5_common_17 : decode cX5_common 17 = .ok (.istore_n 3, 1) := by decide +kernel
theorem dX5_common_18 : decode cX5_common 18 = .ok (.goto (-14), 3) := by decide +kernel
theorem dX5_common_21 : decode cX5_common 21 = .ok (.iload_n 2, 1) := by decide +kernel
theorem dX5_common_22 : decode cX5_common 22 = .ok (.ireturn, 1) := by decide +kernel
theorem dX5_share_0 : decode cX5_share 0 = .ok (.aload_n 0, 1) := by decide +kernel
theorem dX5_share_1 : decode cX5_share 1 = .ok (.aload_n 0, 1) := by decide +kernel
theorem dX5_share_2 : decode cX5_share 2 = .ok (.getfield 97, 3) := by decide +kernel
theorem dX5_share_5 : decode cX5_share 5 = .ok (.aload_n 0, 1) := by decide +kernel
theorem dX5_share_6 : decode cX5_share 6 = .ok (.getfield 44, 3) := by decide +kernel
theorem dX5_share_9 : decode cX5_share 9 = .ok (.iconst 0, 1) := by decide +kernel
theorem dX5_share_10 : decode cX5_share 10 = .ok (.invokevirtual 120, 3) := by decide +kernel
theorem dX5_share_13 : decode cX5_share 13 = .ok (.istore_n 2, 1) := by decide +kernel
theorem dX5_share_14 : decode cX5_share 14 = .ok (.aload_n 0, 1) := by decide +kernel
theorem dX5_share_15 : decode cX5_share 15 = .ok (.aload_n 0, 1) := by decide +kernel
theorem dX5_share_16 : decode cX5_share 16 = .ok (.getfield 97, 3) := by decide +kernel
theorem dX5_share_19 : decode cX5_share 19 = .ok (.aload_n 0, 1) := by decide +kernel
theorem dX5_share_20 : decode cX5_share 20 = .ok (.getfield 44, 3) := by decide +kernel
theorem dX5_share_23 : decode cX5_share 23 = .ok (.iconst 1, 1) := by decide +kernel
theorem dX5_share_24 : decode cX5_share 24 = .ok (.invokevirtual 120, 3) := by decide +kernel
theorem dX5_share_27 : decode cX5_share 27 = .ok (.istore_n 3, 1) := by decide +kernel
theorem dX5_share_28 : decode cX5_share 28 = .ok (.aload_n 0, 1) := by decide +kernel
theorem dX5_share_29 : decode cX5_share 29 = .ok (.iload_n 1, 1) := by decide +kernel
theorem dX5_share_30 : decode cX5_share 30 = .ok (.iconst 0, 1) := by decide +kernel
theorem dX5_share_31 : decode cX5_share 31 = .ok (.iconst 1, 1) := by decide +kernel
theorem dX5_share_32 : decode cX5_share 32 = .ok (.invokestatic 79, 3) := by decide +kernel
theorem dX5_share_35 : decode cX5_share 35 = .ok (.ifCond .ne 7, 3) := by decide +kernel
theorem dX5_share_38 : decode cX5_share 38 = .ok (.iconst 1, 1) := by decide +kernel
theorem dX5_share_39 : decode cX5_share 39 = .ok (.goto 4, 3) := by decide +kernel
theorem dX5_share_42 : decode cX5_share 42 = .ok (.iconst 0, 1) := by decide +kernel
theorem dX5_share_43 : decode cX5_share 43 = .ok (.iload_n 3, 1) := by decide +kernel
theorem dX5_share_44 : decode cX5_share 44 = .ok (.ifCond .ne 7, 3) := by decide +kernel
theorem dX5_share_47 : decode cX5_share 47 = .ok (.iconst 1, 1) := by decide +kernel
theorem dX5_share_48 : decode cX5_share 48 = .ok (.goto 4, 3) := by decide +kernel
theorem dX5_share_51 : decode cX5_share 51 = .ok (.iconst 0, 1) := by decide +kernel
theorem dX5_share_52 : decode cX5_share 52 = .ok (.iconst 0, 1) := by decide +kernel
theorem dX5_share_53 : decode cX5_share 53 = .ok (.invokevirtual 90, 3) := by decide +kernel
theorem dX5_share_56 : decode cX5_share 56 = .ok (.ifCond .eq 5, 3) := by decide +kernel
theorem dX5_share_59 : decode cX5_share 59 = .ok (.iconst 0, 1) := by decide +kernel
theorem dX5_share_60 : decode cX5_share 60 = .ok (.ireturn, 1) := by decide +kernel
theorem dX5_share_61 : decode cX5_share 61 = .ok (.iload_n 1, 1) := by decide +kernel
theorem dX5_share_62 : decode cX5_share 62 = .ok (.ifCond .ne 7, 3) := by decide +kernel
theorem dX5_share_65 : decode cX5_share 65 = .ok (.iload_n 2, 1) := by decide +kernel
theorem dX5_share_66 : decode cX5_share 66 = .ok (.goto 4, 3) := by decide +kernel
theorem dX5_share_69 : decode cX5_share 69 = .ok (.iload_n 3, 1) := by decide +kernel
theorem dX5_share_70 : decode cX5_share 70 = .ok (.iload_n 2, 1) := by decide +kernel
theorem dX5_share_71 : decode cX5_share 71 = .ok (.iload_n 3, 1) := by decide +kernel
theorem dX5_share_72 : decode cX5_share 72 = .ok (.invokestatic 124, 3) := by decide +kernel
theorem dX5_share_75 : decode cX5_share 75 = .ok (.idiv, 1) := by decide +kernel
theorem dX5_share_76 : decode cX5_share 76 = .ok (.ireturn, 1) := by decide +kernel
theorem dX5_sumOf_0 : decode cX5_sumOf 0 = .ok (.aload_n 0, 1) := by decide +kernel
theorem dX5_sumOf_1 : decode cX5_sumOf 1 = .ok (.getfield 32, 3) := by decide +kernel
theorem dX5_sumOf_4 : decode cX5_sumOf 4 = .ok (.iload_n 1, 1) := by decide +kernel
theorem dX5_sumOf_5 : decode cX5_sumOf 5 = .ok (.iaload, 1) := by decide +kernel
theorem dX5_sumOf_6 : decode cX5_sumOf 6 = .ok (.aload_n 0, 1) := by decide +kernel
theorem dX5_sumOf_7 : decode cX5_sumOf 7 = .ok (.getfield 35, 3) := by decide +kernel
theorem dX5_sumOf_10 : decode cX5_sumOf 10 = .ok (.iload_n 1, 1) := by decide +kernel
theorem dX5_sumOf_11 : decode cX5_sumOf 11 = .ok (.iaload, 1) := by decide +kernel
theorem dX5_sumOf_12 : decode cX5_sumOf 12 = .ok (.iadd, 1) := by decide +kernel
theorem dX5_sumOf_13 : decode cX5_sumOf 13 = .ok (.ireturn, 1) := by decide +kernel
theorem dX5_placed_0 : decode cX5_placed 0 = .ok (.aload_n 0, 1) := by decide +kernel
theorem dX5_placed_1 : decode cX5_placed 1 = .ok (.iload_n 1, 1) := by decide +kernel
theorem dX5_placed_2 : decode cX5_placed 2 = .ok (.iconst 1, 1) := by decide +kernel
theorem dX5_placed_3 : decode cX5_placed 3 = .ok (.bipush 100, 2) := by decide +kernel
theorem dX5_placed_5 : decode cX5_placed 5 = .ok (.invokestatic 79, 3) := by decide +kernel
theorem dX5_placed_8 : decode cX5_placed 8 = .ok (.ifCond .ne 7, 3) := by decide +kernel
theorem dX5_placed_11 : decode cX5_placed 11 = .ok (.iconst 1, 1) := by decide +kernel
theorem dX5_placed_12 : decode cX5_placed 12 = .ok (.goto 4, 3) := by decide +kernel
theorem dX5_placed_15 : decode cX5_placed 15 = .ok (.iconst 0, 1) := by decide +kernel
theorem dX5_placed_16 : decode cX5_placed 16 = .ok (.iconst 0, 1) := by decide +kernel
theorem dX5_placed_17 : decode cX5_placed 17 = .ok (.iconst 0, 1) := by decide +kernel
theorem dX5_placed_18 : decode cX5_placed 18 = .ok (.invokevirtual 90, 3) := by decide +kernel
theorem dX5_placed_21 : decode cX5_placed 21 = .ok (.ifCond .eq 5, 3) := by decide +kernel
theorem dX5_placed_24 : decode cX5_placed 24 = .ok (.iconst 0, 1) := by decide +kernel
theorem dX5_placed_25 : decode cX5_placed 25 = .ok (.ireturn, 1) := by decide +kernel
theorem dX5_placed_26 : decode cX5_placed 26 = .ok (.iconst 0, 1) := by decide +kernel
theorem dX5_placed_27 : decode cX5_placed 27 = .ok (.istore_n 2, 1) := by decide +kernel
theorem dX5_placed_28 : decode cX5_placed 28 = .ok (.iconst 0, 1) := by decide +kernel
theorem dX5_placed_29 : decode cX5_placed 29 = .ok (.istore_n 3, 1) := by decide +kernel
theorem dX5_placed_30 : decode cX5_placed 30 = .ok (.iload_n 3, 1) := by decide +kernel
theorem dX5_placed_31 : decode cX5_placed 31 = .ok (.aload_n 0, 1) := by decide +kernel
theorem dX5_placed_32 : decode cX5_placed 32 = .ok (.getfield 87, 3) := by decide +kernel
theorem dX5_placed_35 : decode cX5_placed 35 = .ok (.if_icmp .ge 33, 3) := by decide +kernel
theorem dX5_placed_38 : decode cX5_placed 38 = .ok (.iload_n 2, 1) := by decide +kernel
theorem dX5_placed_39 : decode cX5_placed 39 = .ok (.aload_n 0, 1) := by decide +kernel
theorem dX5_placed_40 : decode cX5_placed 40 = .ok (.iload_n 3, 1) := by decide +kernel
theorem dX5_placed_41 : decode cX5_placed 41 = .ok (.invokevirtual 117, 3) := by decide +kernel
theorem dX5_placed_44 : decode cX5_placed 44 = .ok (.ifCond .eq 15, 3) := by decide +kernel
theorem dX5_placed_47 : decode cX5_placed 47 = .ok (.aload_n 0, 1) := by decide +kernel
theorem dX5_placed_48 : decode cX5_placed 48 = .ok (.iload_n 3, 1) := by decide +kernel
theorem dX5_placed_49 : decode cX5_placed 49 = .ok (.invokevirtual 104, 3) := by decide +kernel
theorem dX5_placed_52 : decode cX5_placed 52 = .ok (.ifCond .eq 7, 3) := by decide +kernel
theorem dX5_placed_55 : decode cX5_placed 55 = .ok (.iconst 1, 1) := by decide +kernel
theorem dX5_placed_56 : decode cX5_placed 56 = .ok (.goto 4, 3) := by decide +kernel
theorem dX5_placed_59 : decode cX5_placed 59 = .ok (.iconst 0, 1) := by decide +kernel
theorem dX5_placed_60 : decode cX5_placed 60 = .ok (.iadd, 1) := by decide +kernel
theorem dX5_placed_61 : decode cX5_placed 61 = .ok (.istore_n 2, 1) := by decide +kernel
theorem dX5_placed_62 : decode cX5_placed 62 = .ok (.iinc 3 1, 3) := by decide +kernel
theorem dX5_placed_65 : decode cX5_placed 65 = .ok (.goto (-35), 3) := by decide +kernel
theorem dX5_placed_68 : decode cX5_placed 68 = .ok (.iload_n 2, 1) := by decide +kernel
theorem dX5_placed_69 : decode cX5_placed 69 = .ok (.ifCond .ne 5, 3) := by decide +kernel
theorem dX5_placed_72 : decode cX5_placed 72 = .ok (.iconst (-1), 1) := by decide +kernel
theorem dX5_placed_73 : decode cX5_placed 73 = .ok (.ireturn, 1) := by decide +kernel
theorem dX5_placed_74 : decode cX5_placed 74 = .ok (.iconst 0, 1) := by decide +kernel
theorem dX5_placed_75 : decode cX5_placed 75 = .ok (.istore_n 3, 1) := by decide +kernel
theorem dX5_placed_76 : decode cX5_placed 76 = .ok (.iconst 0, 1) := by decide +kernel
theorem dX5_placed_77 : decode cX5_placed 77 = .ok (.istore 4, 2) := by decide +kernel
theorem dX5_placed_79 : decode cX5_placed 79 = .ok (.iload 4, 2) := by decide +kernel
theorem dX5_placed_81 : decode cX5_placed 81 = .ok (.aload_n 0, 1) := by decide +kernel
theorem dX5_placed_82 : decode cX5_placed 82 = .ok (.getfield 87, 3) := by decide +kernel
theorem dX5_placed_85 : decode cX5_placed 85 = .ok (.if_icmp .ge 91, 3) := by decide +kernel
theorem dX5_placed_88 : decode cX5_placed 88 = .ok (.aload_n 0, 1) := by decide +kernel
theorem dX5_placed_89 : decode cX5_placed 89 = .ok (.iload 4, 2) := by decide +kernel
theorem dX5_placed_91 : decode cX5_placed 91 = .ok (.invokevirtual 117, 3) := by decide +kernel
theorem dX5_placed_94 : decode cX5_placed 94 = .ok (.ifCond .eq 76, 3) := by decide +kernel
theorem dX5_placed_97 : decode cX5_placed 97 = .ok (.aload_n 0, 1) := by decide +kernel
theorem dX5_placed_98 : decode cX5_placed 98 = .ok (.iload 4, 2) := by decide +kernel
theorem dX5_placed_100 : decode cX5_placed 100 = .ok (.invokevirtual 104, 3) := by decide +kernel
theorem dX5_placed_103 : decode cX5_placed 103 = .ok (.ifCond .eq 67, 3) := by decide +kernel
theorem dX5_placed_106 : decode cX5_placed 106 = .ok (.iload_n 3, 1) := by decide +kernel
theorem dX5_placed_107 : decode cX5_placed 107 = .ok (.istore 5, 2) := by decide +kernel
theorem dX5_placed_109 : decode cX5_placed 109 = .ok (.iload 5, 2) := by decide +kernel
theorem dX5_placed_111 : decode cX5_placed 111 = .ok (.ifCond .le 43, 3) := by decide +kernel
theorem dX5_placed_114 : decode cX5_placed 114 = .ok (.aload_n 0, 1) := by decide +kernel
theorem dX5_placed_115 : decode cX5_placed 115 = .ok (.getfield 66, 3) := by decide +kernel
theorem dX5_placed_118 : decode cX5_placed 118 = .ok (.iload 5, 2) := by decide +kernel
theorem dX5_placed_120 : decode cX5_placed 120 = .ok (.iconst 1, 1) := by decide +kernel
theorem dX5_placed_121 : decode cX5_placed 121 = .ok (.isub, 1) := by decide +kernel
theorem dX5_placed_122 : decode cX5_placed 122 = .ok (.iaload, 1) := by decide +kernel
theorem dX5_placed_123 : decode cX5_placed 123 = .ok (.aload_n 0, 1) := by decide +kernel
theorem dX5_placed_124 : decode cX5_placed 124 = .ok (.iload 4, 2) := by decide +kernel
theorem dX5_placed_126 : decode cX5_placed 126 = .ok (.invokevirtual 128, 3) := by decide +kernel
theorem dX5_placed_129 : decode cX5_placed 129 = .ok (.if_icmp .le 25, 3) := by decide +kernel
theorem dX5_placed_132 : decode cX5_placed 132 = .ok (.aload_n 0, 1) := by decide +kernel
theorem dX5_placed_133 : decode cX5_placed 133 = .ok (.getfield 66, 3) := by decide +kernel
theorem dX5_placed_136 : decode cX5_placed 136 = .ok (.iload 5, 2) := by decide +kernel
theorem dX5_placed_138 : decode cX5_placed 138 = .ok (.aload_n 0, 1) := by decide +kernel
theorem dX5_placed_139 : decode cX5_placed 139 = .ok (.getfield 66, 3) := by decide +kernel
theorem dX5_placed_142 : decode cX5_placed 142 = .ok (.iload 5, 2) := by decide +kernel
theorem dX5_placed_144 : decode cX5_placed 144 = .ok (.iconst 1, 1) := by decide +kernel
theorem dX5_placed_145 : decode cX5_placed 145 = .ok (.isub, 1) := by decide +kernel
theorem dX5_placed_146 : decode cX5_placed 146 = .ok (.iaload, 1) := by decide +kernel
theorem dX5_placed_147 : decode cX5_placed 147 = .ok (.iastore, 1) := by decide +kernel
theorem dX5_placed_148 : decode cX5_placed 148 = .ok (.iinc 5 (-1), 3) := by decide +kernel
theorem dX5_placed_151 : decode cX5_placed 151 = .ok (.goto (-42), 3) := by decide +kernel
theorem dX5_placed_154 : decode cX5_placed 154 = .ok (.aload_n 0, 1) := by decide +kernel
theorem dX5_placed_155 : decode cX5_placed 155 = .ok (.getfield 66, 3) := by decide +kernel
theorem dX5_placed_158 : decode cX5_placed 158 = .ok (.iload 5, 2) := by decide +kernel
theorem dX5_placed_160 : decode cX5_placed 160 = .ok (.aload_n 0, 1) := by decide +kernel
theorem dX5_placed_161 : decode cX5_placed 161 = .ok (.iload 4, 2) := by decide +kernel
theorem dX5_placed_163 : decode cX5_placed 163 = .ok (.invokevirtual 128, 3) := by decide +kernel
theorem dX5_placed_166 : decode cX5_placed 166 = .ok (.iastore, 1) := by decide +kernel
theorem dX5_placed_167 : decode cX5_placed 167 = .ok (.iinc 3 1, 3) := by decide +kernel
theorem dX5_placed_170 : decode cX5_placed 170 = .ok (.iinc 4 1, 3) := by decide +kernel
theorem dX5_placed_173 : decode cX5_placed 173 = .ok (.goto (-94), 3) := by decide +kernel
theorem dX5_placed_176 : decode cX5_placed 176 = .ok (.aload_n 0, 1) := by decide +kernel
theorem dX5_placed_177 : decode cX5_placed 177 = .ok (.getfield 66, 3) := by decide +kernel
theorem dX5_placed_180 : decode cX5_placed 180 = .ok (.iload_n 1, 1) := by decide +kernel
theorem dX5_placed_181 : decode cX5_placed 181 = .ok (.iload_n 2, 1) := by decide +kernel
theorem dX5_placed_182 : decode cX5_placed 182 = .ok (.imul, 1) := by decide +kernel
theorem dX5_placed_183 : decode cX5_placed 183 = .ok (.bipush 99, 2) := by decide +kernel
theorem dX5_placed_185 : decode cX5_placed 185 = .ok (.iadd, 1) := by decide +kernel
theorem dX5_placed_186 : decode cX5_placed 186 = .ok (.bipush 100, 2) := by decide +kernel
theorem dX5_placed_188 : decode cX5_placed 188 = .ok (.idiv, 1) := by decide +kernel
theorem dX5_placed_189 : decode cX5_placed 189 = .ok (.iconst 1, 1) := by decide +kernel
theorem dX5_placed_190 : decode cX5_placed 190 = .ok (.isub, 1) := by decide +kernel
theorem dX5_placed_191 : decode cX5_placed 191 = .ok (.iaload, 1) := by decide +kernel
theorem dX5_placed_192 : decode cX5_placed 192 = .ok (.ireturn, 1) := by decide +kernel
theorem dX5_splits_0 : decode cX5_splits 0 = .ok (.aload_n 0, 1) := by decide +kernel
theorem dX5_splits_1 : decode cX5_splits 1 = .ok (.iconst 0, 1) := by decide +kernel
theorem dX5_splits_2 : decode cX5_splits 2 = .ok (.putfield 72, 3) := by decide +kernel
theorem dX5_splits_5 : decode cX5_splits 5 = .ok (.iconst 0, 1) := by decide +kernel
theorem dX5_splits_6 : decode cX5_splits 6 = .ok (.istore_n 1, 1) := by decide +kernel
theorem dX5_splits_7 : decode cX5_splits 7 = .ok (.aload_n 0, 1) := by decide +kernel
theorem dX5_splits_8 : decode cX5_splits 8 = .ok (.getfield 97, 3) := by decide +kernel
theorem dX5_splits_11 : decode cX5_splits 11 = .ok (.iconst 1, 1) := by decide +kernel
theorem dX5_splits_12 : decode cX5_splits 12 = .ok (.iadd, 1) := by decide +kernel
theorem dX5_splits_13 : decode cX5_splits 13 = .ok (.istore_n 2, 1) := by decide +kernel
theorem dX5_splits_14 : decode cX5_splits 14 = .ok (.iload_n 2, 1) := by decide +kernel
theorem dX5_splits_15 : decode cX5_splits 15 = .ok (.aload_n 0, 1) := by decide +kernel
theorem dX5_splits_16 : decode cX5_splits 16 = .ok (.getfield 44, 3) := by decide +kernel
theorem dX5_splits_19 : decode cX5_splits 19 = .ok (.if_icmp .gt 32, 3) := by decide +kernel
theorem dX5_splits_22 : decode cX5_splits 22 = .ok (.iload_n 1, 1) := by decide +kernel
theorem dX5_splits_23 : decode cX5_splits 23 = .ok (.aload_n 0, 1) := by decide +kernel
theorem dX5_splits_24 : decode cX5_splits 24 = .ok (.iload_n 2, 1) := by decide +kernel
theorem dX5_splits_25 : decode cX5_splits 25 = .ok (.invokevirtual 107, 3) := by decide +kernel
theorem dX5_splits_28 : decode cX5_splits 28 = .ok (.aload_n 0, 1) := by decide +kernel
theorem dX5_splits_29 : decode cX5_splits 29 = .ok (.iload_n 2, 1) := by decide +kernel
theorem dX5_splits_30 : decode cX5_splits 30 = .ok (.iconst 1, 1) := by decide +kernel
theorem dX5_splits_31 : decode cX5_splits 31 = .ok (.isub, 1) := by decide +kernel
theorem dX5_splits_32 : decode cX5_splits 32 = .ok (.invokevirtual 107, 3) := by decide +kernel
theorem dX5_splits_35 : decode cX5_splits 35 = .ok (.if_icmp .eq 7, 3) := by decide +kernel
theorem dX5_splits_38 : decode cX5_splits 38 = .ok (.iconst 1, 1) := by decide +kernel
theorem dX5_splits_39 : decode cX5_splits 39 = .ok (.goto 4, 3) := by decide +kernel
theorem dX5_splits_42 : decode cX5_splits 42 = .ok (.iconst 0, 1) := by decide +kernel
theorem dX5_splits_43 : decode cX5_splits 43 = .ok (.iadd, 1) := by decide +kernel
theorem dX5_splits_44 : decode cX5_splits 44 = .ok (.istore_n 1, 1) := by decide +kernel
theorem dX5_splits_45 : decode cX5_splits 45 = .ok (.iinc 2 1, 3) := by decide +kernel
theorem dX5_splits_48 : decode cX5_splits 48 = .ok (.goto (-34), 3) := by decide +kernel
theorem dX5_splits_51 : decode cX5_splits 51 = .ok (.iload_n 1, 1) := by decide +kernel
theorem dX5_splits_52 : decode cX5_splits 52 = .ok (.ireturn, 1) := by decide +kernel
theorem dX5_compare_0 : decode cX5_compare 0 = .ok (.iload_n 1, 1) := by decide +kernel
theorem dX5_compare_1 : decode cX5_compare 1 = .ok (.invokestatic 83, 3) := by decide +kernel
theorem dX5_compare_4 : decode cX5_compare 4 = .ok (.ifCond .eq 15, 3) := by decide +kernel
theorem dX5_compare_7 : decode cX5_compare 7 = .ok (.iload_n 2, 1) := by decide +kernel
theorem dX5_compare_8 : decode cX5_compare 8 = .ok (.invokestatic 83, 3) := by decide +kernel
theorem dX5_compare_11 : decode cX5_compare 11 = .ok (.ifCond .eq 8, 3) := by decide +kernel
theorem dX5_compare_14 : decode cX5_compare 14 = .ok (.iload_n 2, 1) := by decide +kernel
theorem dX5_compare_15 : decode cX5_compare 15 = .ok (.iload_n 1, 1) := by decide +kernel
theorem dX5_compare_16 : decode cX5_compare 16 = .ok (.if_icmp .ge 7, 3) := by decide +kernel
theorem dX5_compare_19 : decode cX5_compare 19 = .ok (.iconst 1, 1) := by decide +kernel
theorem dX5_compare_20 : decode cX5_compare 20 = .ok (.goto 4, 3) := by decide +kernel
theorem dX5_compare_23 : decode cX5_compare 23 = .ok (.iconst 0, 1) := by decide +kernel
theorem dX5_compare_24 : decode cX5_compare 24 = .ok (.istore_n 3, 1) := by decide +kernel
theorem dX5_compare_25 : decode cX5_compare 25 = .ok (.aload_n 0, 1) := by decide +kernel
theorem dX5_compare_26 : decode cX5_compare 26 = .ok (.aload_n 0, 1) := by decide +kernel
theorem dX5_compare_27 : decode cX5_compare 27 = .ok (.getfield 97, 3) := by decide +kernel
theorem dX5_compare_30 : decode cX5_compare 30 = .ok (.aload_n 0, 1) := by decide +kernel
theorem dX5_compare_31 : decode cX5_compare 31 = .ok (.getfield 44, 3) := by decide +kernel
theorem dX5_compare_34 : decode cX5_compare 34 = .ok (.iconst 0, 1) := by decide +kernel
theorem dX5_compare_35 : decode cX5_compare 35 = .ok (.invokevirtual 120, 3) := by decide +kernel
theorem dX5_compare_38 : decode cX5_compare 38 = .ok (.i2l, 1) := by decide +kernel
theorem dX5_compare_39 : decode cX5_compare 39 = .ok (.lstore 4, 2) := by decide +kernel
theorem dX5_compare_41 : decode cX5_compare 41 = .ok (.aload_n 0, 1) := by decide +kernel
theorem dX5_compare_42 : decode cX5_compare 42 = .ok (.aload_n 0, 1) := by decide +kernel
theorem dX5_compare_43 : decode cX5_compare 43 = .ok (.getfield 97, 3) := by decide +kernel
theorem dX5_compare_46 : decode cX5_compare 46 = .ok (.aload_n 0, 1) := by decide +kernel
theorem dX5_compare_47 : decode cX5_compare 47 = .ok (.getfield 44, 3) := by decide +kernel
theorem dX5_compare_50 : decode cX5_compare 50 = .ok (.iconst 1, 1) := by decide +kernel
theorem dX5_compare_51 : decode cX5_compare 51 = .ok (.invokevirtual 120, 3) := by decide +kernel
theorem dX5_compare_54 : decode cX5_compare 54 = .ok (.i2l, 1) := by decide +kernel
theorem dX5_compare_55 : decode cX5_compare 55 = .ok (.lstore 6, 2) := by decide +kernel
theorem dX5_compare_57 : decode cX5_compare 57 = .ok (.iload_n 3, 1) := by decide +kernel
theorem dX5_compare_58 : decode cX5_compare 58 = .ok (.ifCond .eq 7, 3) := by decide +kernel
theorem dX5_compare_61 : decode cX5_compare 61 = .ok (.lconst 0, 1) := by decide +kernel
theorem dX5_compare_62 : decode cX5_compare 62 = .ok (.goto 11, 3) := by decide +kernel
theorem dX5_compare_65 : decode cX5_compare 65 = .ok (.aload_n 0, 1) := by decide +kernel
theorem dX5_compare_66 : decode cX5_compare 66 = .ok (.iload_n 1, 1) := by decide +kernel
theorem dX5_compare_67 : decode cX5_compare 67 = .ok (.iload_n 2, 1) := by decide +kernel
theorem dX5_compare_68 : decode cX5_compare 68 = .ok (.iconst 0, 1) := by decide +kernel
theorem dX5_compare_69 : decode cX5_compare 69 = .ok (.invokevirtual 120, 3) := by decide +kernel
theorem dX5_compare_72 : decode cX5_compare 72 = .ok (.i2l, 1) := by decide +kernel
theorem dX5_compare_73 : decode cX5_compare 73 = .ok (.lstore 8, 2) := by decide +kernel
theorem dX5_compare_75 : decode cX5_compare 75 = .ok (.iload_n 3, 1) := by decide +kernel
theorem dX5_compare_76 : decode cX5_compare 76 = .ok (.ifCond .eq 7, 3) := by decide +kernel
theorem dX5_compare_79 : decode cX5_compare 79 = .ok (.lconst 0, 1) := by decide +kernel
theorem dX5_compare_80 : decode cX5_compare 80 = .ok (.goto 11, 3) := by decide +kernel
theorem dX5_compare_83 : decode cX5_compare 83 = .ok (.aload_n 0, 1) := by decide +kernel
theorem dX5_compare_84 : decode cX5_compare 84 = .ok (.iload_n 1, 1) := by decide +kernel
theorem dX5_compare_85 : decode cX5_compare 85 = .ok (.iload_n 2, 1) := by decide +kernel
theorem dX5_compare_86 : decode cX5_compare 86 = .ok (.iconst 1, 1) := by decide +kernel
theorem dX5_compare_87 : decode cX5_compare 87 = .ok (.invokevirtual 120, 3) := by decide +kernel
theorem dX5_compare_90 : decode cX5_compare 90 = .ok (.i2l, 1) := by decide +kernel
theorem dX5_compare_91 : decode cX5_compare 91 = .ok (.lstore 10, 2) := by decide +kernel
theorem dX5_compare_93 : decode cX5_compare 93 = .ok (.aload_n 0, 1) := by decide +kernel
theorem dX5_compare_94 : decode cX5_compare 94 = .ok (.iload_n 3, 1) := by decide +kernel
theorem dX5_compare_95 : decode cX5_compare 95 = .ok (.lload 6, 2) := by decide +kernel
theorem dX5_compare_97 : decode cX5_compare 97 = .ok (.lconst 0, 1) := by decide +kernel
theorem dX5_compare_98 : decode cX5_compare 98 = .ok (.lcmp, 1) := by decide +kernel
theorem dX5_compare_99 : decode cX5_compare 99 = .ok (.ifCond .eq 10, 3) := by decide +kernel
theorem dX5_compare_102 : decode cX5_compare 102 = .ok (.lload 10, 2) := by decide +kernel
theorem dX5_compare_104 : decode cX5_compare 104 = .ok (.lconst 0, 1) := by decide +kernel
theorem dX5_compare_105 : decode cX5_compare 105 = .ok (.lcmp, 1) := by decide +kernel
theorem dX5_compare_106 : decode cX5_compare 106 = .ok (.ifCond .ne 7, 3) := by decide +kernel
theorem dX5_compare_109 : decode cX5_compare 109 = .ok (.iconst 1, 1) := by decide +kernel
theorem dX5_compare_110 : decode cX5_compare 110 = .ok (.goto 4, 3) := by decide +kernel
theorem dX5_compare_113 : decode cX5_compare 113 = .ok (.iconst 0, 1) := by decide +kernel
theorem dX5_compare_114 : decode cX5_compare 114 = .ok (.iconst 0, 1) := by decide +kernel
theorem dX5_compare_115 : decode cX5_compare 115 = .ok (.invokevirtual 90, 3) := by decide +kernel
theorem dX5_compare_118 : decode cX5_compare 118 = .ok (.ifCond .eq 5, 3) := by decide +kernel
theorem dX5_compare_121 : decode cX5_compare 121 = .ok (.iconst 0, 1) := by decide +kernel
theorem dX5_compare_122 : decode cX5_compare 122 = .ok (.ireturn, 1) := by decide +kernel
theorem dX5_compare_123 : decode cX5_compare 123 = .ok (.lload 4, 2) := by decide +kernel
theorem dX5_compare_125 : decode cX5_compare 125 = .ok (.lload 10, 2) := by decide +kernel
theorem dX5_compare_127 : decode cX5_compare 127 = .ok (.lmul, 1) := by decide +kernel
theorem dX5_compare_128 : decode cX5_compare 128 = .ok (.lload 8, 2) := by decide +kernel
theorem dX5_compare_130 : decode cX5_compare 130 = .ok (.lload 6, 2) := by decide +kernel
theorem dX5_compare_132 : decode cX5_compare 132 = .ok (.lmul, 1) := by decide +kernel
theorem dX5_compare_133 : decode cX5_compare 133 = .ok (.lcmp, 1) := by decide +kernel
theorem dX5_compare_134 : decode cX5_compare 134 = .ok (.ifCond .le 7, 3) := by decide +kernel
theorem dX5_compare_137 : decode cX5_compare 137 = .ok (.iconst 1, 1) := by decide +kernel
theorem dX5_compare_138 : decode cX5_compare 138 = .ok (.goto 22, 3) := by decide +kernel
theorem dX5_compare_141 : decode cX5_compare 141 = .ok (.lload 4, 2) := by decide +kernel
theorem dX5_compare_143 : decode cX5_compare 143 = .ok (.lload 10, 2) := by decide +kernel
theorem dX5_compare_145 : decode cX5_compare 145 = .ok (.lmul, 1) := by decide +kernel
theorem dX5_compare_146 : decode cX5_compare 146 = .ok (.lload 8, 2) := by decide +kernel
theorem dX5_compare_148 : decode cX5_compare 148 = .ok (.lload 6, 2) := by decide +kernel
theorem dX5_compare_150 : decode cX5_compare 150 = .ok (.lmul, 1) := by decide +kernel
theorem dX5_compare_151 : decode cX5_compare 151 = .ok (.lcmp, 1) := by decide +kernel
theorem dX5_compare_152 : decode cX5_compare 152 = .ok (.ifCond .ge 7, 3) := by decide +kernel
theorem dX5_compare_155 : decode cX5_compare 155 = .ok (.iconst (-1), 1) := by decide +kernel
theorem dX5_compare_156 : decode cX5_compare 156 = .ok (.goto 4, 3) := by decide +kernel
theorem dX5_compare_159 : decode cX5_compare 159 = .ok (.iconst 0, 1) := by decide +kernel
theorem dX5_compare_160 : decode cX5_compare 160 = .ok (.ireturn, 1) := by decide +kernel
theorem dX5_gain_0 : decode cX5_gain 0 = .ok (.iconst 0, 1) := by decide +kernel
theorem dX5_gain_1 : decode cX5_gain 1 = .ok (.istore_n 3, 1) := by decide +kernel
theorem dX5_gain_2 : decode cX5_gain 2 = .ok (.iconst 0, 1) := by decide +kernel
theorem dX5_gain_3 : decode cX5_gain 3 = .ok (.istore 4, 2) := by decide +kernel
theorem dX5_gain_5 : decode cX5_gain 5 = .ok (.iload 4, 2) := by decide +kernel
theorem dX5_gain_7 : decode cX5_gain 7 = .ok (.bipush 6, 2) := by decide +kernel
theorem dX5_gain_9 : decode cX5_gain 9 = .ok (.if_icmp .ge 63, 3) := by decide +kernel
theorem dX5_gain_12 : decode cX5_gain 12 = .ok (.iload_n 1, 1) := by decide +kernel
theorem dX5_gain_13 : decode cX5_gain 13 = .ok (.iload 4, 2) := by decide +kernel
theorem dX5_gain_15 : decode cX5_gain 15 = .ok (.ishr, 1) := by decide +kernel
theorem dX5_gain_16 : decode cX5_gain 16 = .ok (.iconst 1, 1) := by decide +kernel
theorem dX5_gain_17 : decode cX5_gain 17 = .ok (.iand, 1) := by decide +kernel
theorem dX5_gain_18 : decode cX5_gain 18 = .ok (.iconst 1, 1) := by decide +kernel
theorem dX5_gain_19 : decode cX5_gain 19 = .ok (.if_icmp .ne 47, 3) := by decide +kernel
theorem dX5_gain_22 : decode cX5_gain 22 = .ok (.iload_n 3, 1) := by decide +kernel
theorem dX5_gain_23 : decode cX5_gain 23 = .ok (.aload_n 0, 1) := by decide +kernel
theorem dX5_gain_24 : decode cX5_gain 24 = .ok (.getfield 60, 3) := by decide +kernel
theorem dX5_gain_27 : decode cX5_gain 27 = .ok (.iload_n 2, 1) := by decide +kernel
theorem dX5_gain_28 : decode cX5_gain 28 = .ok (.iaload, 1) := by decide +kernel
theorem dX5_gain_29 : decode cX5_gain 29 = .ok (.aload_n 0, 1) := by decide +kernel
theorem dX5_gain_30 : decode cX5_gain 30 = .ok (.getfield 60, 3) := by decide +kernel
theorem dX5_gain_33 : decode cX5_gain 33 = .ok (.iload 4, 2) := by decide +kernel
theorem dX5_gain_35 : decode cX5_gain 35 = .ok (.iaload, 1) := by decide +kernel
theorem dX5_gain_36 : decode cX5_gain 36 = .ok (.if_icmp .le 7, 3) := by decide +kernel
theorem dX5_gain_39 : decode cX5_gain 39 = .ok (.iconst 1, 1) := by decide +kernel
theorem dX5_gain_40 : decode cX5_gain 40 = .ok (.goto 24, 3) := by decide +kernel
theorem dX5_gain_43 : decode cX5_gain 43 = .ok (.aload_n 0, 1) := by decide +kernel
theorem dX5_gain_44 : decode cX5_gain 44 = .ok (.getfield 60, 3) := by decide +kernel
theorem dX5_gain_47 : decode cX5_gain 47 = .ok (.iload_n 2, 1) := by decide +kernel
theorem dX5_gain_48 : decode cX5_gain 48 = .ok (.iaload, 1) := by decide +kernel
theorem dX5_gain_49 : decode cX5_gain 49 = .ok (.aload_n 0, 1) := by decide +kernel
theorem dX5_gain_50 : decode cX5_gain 50 = .ok (.getfield 60, 3) := by decide +kernel
theorem dX5_gain_53 : decode cX5_gain 53 = .ok (.iload 4, 2) := by decide +kernel
theorem dX5_gain_55 : decode cX5_gain 55 = .ok (.iaload, 1) := by decide +kernel
theorem dX5_gain_56 : decode cX5_gain 56 = .ok (.if_icmp .ge 7, 3) := by decide +kernel
theorem dX5_gain_59 : decode cX5_gain 59 = .ok (.iconst (-1), 1) := by decide +kernel
theorem dX5_gain_60 : decode cX5_gain 60 = .ok (.goto 4, 3) := by decide +kernel
theorem dX5_gain_63 : decode cX5_gain 63 = .ok (.iconst 0, 1) := by decide +kernel
theorem dX5_gain_64 : decode cX5_gain 64 = .ok (.iadd, 1) := by decide +kernel
theorem dX5_gain_65 : decode cX5_gain 65 = .ok (.istore_n 3, 1) := by decide +kernel
theorem dX5_gain_66 : decode cX5_gain 66 = .ok (.iinc 4 1, 3) := by decide +kernel
theorem dX5_gain_69 : decode cX5_gain 69 = .ok (.goto (-64), 3) := by decide +kernel
theorem dX5_gain_72 : decode cX5_gain 72 = .ok (.iload_n 3, 1) := by decide +kernel
theorem dX5_gain_73 : decode cX5_gain 73 = .ok (.ireturn, 1) := by decide +kernel
theorem dX5_ordersFrom_0 : decode cX5_ordersFrom 0 = .ok (.iconst 0, 1) := by decide +kernel
theorem dX5_ordersFrom_1 : decode cX5_ordersFrom 1 = .ok (.istore_n 3, 1) := by decide +kernel
theorem dX5_ordersFrom_2 : decode cX5_ordersFrom 2 = .ok (.iload_n 3, 1) := by decide +kernel
theorem dX5_ordersFrom_3 : decode cX5_ordersFrom 3 = .ok (.sipush 1984, 3) := by decide +kernel
theorem dX5_ordersFrom_6 : decode cX5_ordersFrom 6 = .ok (.if_icmp .ge 16, 3) := by decide +kernel
theorem dX5_ordersFrom_9 : decode cX5_ordersFrom 9 = .ok (.aload_n 0, 1) := by decide +kernel
theorem dX5_ordersFrom_10 : decode cX5_ordersFrom 10 = .ok (.getfield 63, 3) := by decide +kernel
theorem dX5_ordersFrom_13 : decode cX5_ordersFrom 13 = .ok (.iload_n 3, 1) := by decide +kernel
theorem dX5_ordersFrom_14 : decode cX5_ordersFrom 14 = .ok (.iconst 0, 1) := by decide +kernel
theorem dX5_ordersFrom_15 : decode cX5_ordersFrom 15 = .ok (.iastore, 1) := by decide +kernel
theorem dX5_ordersFrom_16 : decode cX5_ordersFrom 16 = .ok (.iinc 3 1, 3) := by decide +kernel
theorem dX5_ordersFrom_19 : decode cX5_ordersFrom 19 = .ok (.goto (-17), 3) := by decide +kernel
theorem dX5_ordersFrom_22 : decode cX5_ordersFrom 22 = .ok (.aload_n 0, 1) := by decide +kernel
theorem dX5_ordersFrom_23 : decode cX5_ordersFrom 23 = .ok (.getfield 63, 3) := by decide +kernel
theorem dX5_ordersFrom_26 : decode cX5_ordersFrom 26 = .ok (.bipush 15, 2) := by decide +kernel
theorem dX5_ordersFrom_28 : decode cX5_ordersFrom 28 = .ok (.iconst 1, 1) := by decide +kernel
theorem dX5_ordersFrom_29 : decode cX5_ordersFrom 29 = .ok (.iastore, 1) := by decide +kernel
theorem dX5_ordersFrom_30 : decode cX5_ordersFrom 30 = .ok (.iconst 0, 1) := by decide +kernel
theorem dX5_ordersFrom_31 : decode cX5_ordersFrom 31 = .ok (.istore_n 3, 1) := by decide +kernel
theorem dX5_ordersFrom_32 : decode cX5_ordersFrom 32 = .ok (.iload_n 3, 1) := by decide +kernel
theorem dX5_ordersFrom_33 : decode cX5_ordersFrom 33 = .ok (.iconst 1, 1) := by decide +kernel
theorem dX5_ordersFrom_34 : decode cX5_ordersFrom 34 = .ok (.iload_n 2, 1) := by decide +kernel
theorem dX5_ordersFrom_35 : decode cX5_ordersFrom 35 = .ok (.ishl, 1) := by decide +kernel
theorem dX5_ordersFrom_36 : decode cX5_ordersFrom 36 = .ok (.if_icmp .ge 102, 3) := by decide +kernel
theorem dX5_ordersFrom_39 : decode cX5_ordersFrom 39 = .ok (.iconst 0, 1) := by decide +kernel
theorem dX5_ordersFrom_40 : decode cX5_ordersFrom 40 = .ok (.istore 4, 2) := by decide +kernel
theorem dX5_ordersFrom_42 : decode cX5_ordersFrom 42 = .ok (.iload 4, 2) := by decide +kernel
theorem dX5_ordersFrom_44 : decode cX5_ordersFrom 44 = .ok (.iload_n 2, 1) := by decide +kernel
theorem dX5_ordersFrom_45 : decode cX5_ordersFrom 45 = .ok (.if_icmp .ge 87, 3) := by decide +kernel
theorem dX5_ordersFrom_48 : decode cX5_ordersFrom 48 = .ok (.aload_n 0, 1) := by decide +kernel
theorem dX5_ordersFrom_49 : decode cX5_ordersFrom 49 = .ok (.iload_n 3, 1) := by decide +kernel
theorem dX5_ordersFrom_50 : decode cX5_ordersFrom 50 = .ok (.iload 4, 2) := by decide +kernel
theorem dX5_ordersFrom_52 : decode cX5_ordersFrom 52 = .ok (.invokevirtual 131, 3) := by decide +kernel
theorem dX5_ordersFrom_55 : decode cX5_ordersFrom 55 = .ok (.istore 5, 2) := by decide +kernel
theorem dX5_ordersFrom_57 : decode cX5_ordersFrom 57 = .ok (.iconst 0, 1) := by decide +kernel
theorem dX5_ordersFrom_58 : decode cX5_ordersFrom 58 = .ok (.istore 6, 2) := by decide +kernel
theorem dX5_ordersFrom_60 : decode cX5_ordersFrom 60 = .ok (.iload 6, 2) := by decide +kernel
theorem dX5_ordersFrom_62 : decode cX5_ordersFrom 62 = .ok (.bipush 31, 2) := by decide +kernel
theorem dX5_ordersFrom_64 : decode cX5_ordersFrom 64 = .ok (.if_icmp .ge 62, 3) := by decide +kernel
theorem dX5_ordersFrom_67 : decode cX5_ordersFrom 67 = .ok (.iload_n 3, 1) := by decide +kernel
theorem dX5_ordersFrom_68 : decode cX5_ordersFrom 68 = .ok (.iload 4, 2) := by decide +kernel
theorem dX5_ordersFrom_70 : decode cX5_ordersFrom 70 = .ok (.ishr, 1) := by decide +kernel
theorem dX5_ordersFrom_71 : decode cX5_ordersFrom 71 = .ok (.iconst 1, 1) := by decide +kernel
theorem dX5_ordersFrom_72 : decode cX5_ordersFrom 72 = .ok (.iand, 1) := by decide +kernel
theorem dX5_ordersFrom_73 : decode cX5_ordersFrom 73 = .ok (.ifCond .ne 53, 3) := by decide +kernel
theorem dX5_ordersFrom_76 : decode cX5_ordersFrom 76 = .ok (.aload_n 0, 1) := by decide +kernel
theorem dX5_ordersFrom_77 : decode cX5_ordersFrom 77 = .ok (.getfield 63, 3) := by decide +kernel
theorem dX5_ordersFrom_80 : decode cX5_ordersFrom 80 = .ok (.bipush 31, 2) := by decide +kernel
theorem dX5_ordersFrom_82 : decode cX5_ordersFrom 82 = .ok (.iload_n 3, 1) := by decide +kernel
theorem dX5_ordersFrom_83 : decode cX5_ordersFrom 83 = .ok (.imul, 1) := by decide +kernel
theorem dX5_ordersFrom_84 : decode cX5_ordersFrom 84 = .ok (.iload 6, 2) := by decide +kernel
theorem dX5_ordersFrom_86 : decode cX5_ordersFrom 86 = .ok (.iadd, 1) := by decide +kernel
theorem dX5_ordersFrom_87 : decode cX5_ordersFrom 87 = .ok (.iaload, 1) := by decide +kernel
theorem dX5_ordersFrom_88 : decode cX5_ordersFrom 88 = .ok (.istore 7, 2) := by decide +kernel
theorem dX5_ordersFrom_90 : decode cX5_ordersFrom 90 = .ok (.iload 7, 2) := by decide +kernel
theorem dX5_ordersFrom_92 : decode cX5_ordersFrom 92 = .ok (.ifCond .le 28, 3) := by decide +kernel
theorem dX5_ordersFrom_95 : decode cX5_ordersFrom 95 = .ok (.aload_n 0, 1) := by decide +kernel
theorem dX5_ordersFrom_96 : decode cX5_ordersFrom 96 = .ok (.getfield 63, 3) := by decide +kernel
theorem dX5_ordersFrom_99 : decode cX5_ordersFrom 99 = .ok (.bipush 31, 2) := by decide +kernel
theorem dX5_ordersFrom_101 : decode cX5_ordersFrom 101 = .ok (.iload_n 3, 1) := by decide +kernel
theorem dX5_ordersFrom_102 : decode cX5_ordersFrom 102 = .ok (.iconst 1, 1) := by decide +kernel
theorem dX5_ordersFrom_103 : decode cX5_ordersFrom 103 = .ok (.iload 4, 2) := by decide +kernel
theorem dX5_ordersFrom_105 : decode cX5_ordersFrom 105 = .ok (.ishl, 1) := by decide +kernel
theorem dX5_ordersFrom_106 : decode cX5_ordersFrom 106 = .ok (.ior, 1) := by decide +kernel
theorem dX5_ordersFrom_107 : decode cX5_ordersFrom 107 = .ok (.imul, 1) := by decide +kernel
theorem dX5_ordersFrom_108 : decode cX5_ordersFrom 108 = .ok (.iload 6, 2) := by decide +kernel
theorem dX5_ordersFrom_110 : decode cX5_ordersFrom 110 = .ok (.iadd, 1) := by decide +kernel
theorem dX5_ordersFrom_111 : decode cX5_ordersFrom 111 = .ok (.iload 5, 2) := by decide +kernel
theorem dX5_ordersFrom_113 : decode cX5_ordersFrom 113 = .ok (.iadd, 1) := by decide +kernel
theorem dX5_ordersFrom_114 : decode cX5_ordersFrom 114 = .ok (.dup2, 1) := by decide +kernel
theorem dX5_ordersFrom_115 : decode cX5_ordersFrom 115 = .ok (.iaload, 1) := by decide +kernel
theorem dX5_ordersFrom_116 : decode cX5_ordersFrom 116 = .ok (.iload 7, 2) := by decide +kernel
theorem dX5_ordersFrom_118 : decode cX5_ordersFrom 118 = .ok (.iadd, 1) := by decide +kernel
theorem dX5_ordersFrom_119 : decode cX5_ordersFrom 119 = .ok (.iastore, 1) := by decide +kernel
theorem dX5_ordersFrom_120 : decode cX5_ordersFrom 120 = .ok (.iinc 6 1, 3) := by decide +kernel
theorem dX5_ordersFrom_123 : decode cX5_ordersFrom 123 = .ok (.goto (-63), 3) := by decide +kernel
theorem dX5_ordersFrom_126 : decode cX5_ordersFrom 126 = .ok (.iinc 4 1, 3) := by decide +kernel
theorem dX5_ordersFrom_129 : decode cX5_ordersFrom 129 = .ok (.goto (-87), 3) := by decide +kernel
theorem dX5_ordersFrom_132 : decode cX5_ordersFrom 132 = .ok (.iinc 3 1, 3) := by decide +kernel
theorem dX5_ordersFrom_135 : decode cX5_ordersFrom 135 = .ok (.goto (-103), 3) := by decide +kernel
theorem dX5_ordersFrom_138 : decode cX5_ordersFrom 138 = .ok (.iconst 0, 1) := by decide +kernel
theorem dX5_ordersFrom_139 : decode cX5_ordersFrom 139 = .ok (.istore_n 3, 1) := by decide +kernel
theorem dX5_ordersFrom_140 : decode cX5_ordersFrom 140 = .ok (.iload_n 1, 1) := by decide +kernel
theorem dX5_ordersFrom_141 : decode cX5_ordersFrom 141 = .ok (.bipush 15, 2) := by decide +kernel
theorem dX5_ordersFrom_143 : decode cX5_ordersFrom 143 = .ok (.iadd, 1) := by decide +kernel
theorem dX5_ordersFrom_144 : decode cX5_ordersFrom 144 = .ok (.istore 4, 2) := by decide +kernel
theorem dX5_ordersFrom_146 : decode cX5_ordersFrom 146 = .ok (.iload 4, 2) := by decide +kernel
theorem dX5_ordersFrom_148 : decode cX5_ordersFrom 148 = .ok (.bipush 31, 2) := by decide +kernel
theorem dX5_ordersFrom_150 : decode cX5_ordersFrom 150 = .ok (.if_icmp .ge 28, 3) := by decide +kernel
theorem dX5_ordersFrom_153 : decode cX5_ordersFrom 153 = .ok (.iload_n 3, 1) := by decide +kernel
theorem dX5_ordersFrom_154 : decode cX5_ordersFrom 154 = .ok (.aload_n 0, 1) := by decide +kernel
theorem dX5_ordersFrom_155 : decode cX5_ordersFrom 155 = .ok (.getfield 63, 3) := by decide +kernel
theorem dX5_ordersFrom_158 : decode cX5_ordersFrom 158 = .ok (.bipush 31, 2) := by decide +kernel
theorem dX5_ordersFrom_160 : decode cX5_ordersFrom 160 = .ok (.iconst 1, 1) := by decide +kernel
theorem dX5_ordersFrom_161 : decode cX5_ordersFrom 161 = .ok (.iload_n 2, 1) := by decide +kernel
theorem dX5_ordersFrom_162 : decode cX5_ordersFrom 162 = .ok (.ishl, 1) := by decide +kernel
theorem dX5_ordersFrom_163 : decode cX5_ordersFrom 163 = .ok (.iconst 1, 1) := by decide +kernel
theorem dX5_ordersFrom_164 : decode cX5_ordersFrom 164 = .ok (.isub, 1) := by decide +kernel
theorem dX5_ordersFrom_165 : decode cX5_ordersFrom 165 = .ok (.imul, 1) := by decide +kernel
theorem dX5_ordersFrom_166 : decode cX5_ordersFrom 166 = .ok (.iload 4, 2) := by decide +kernel
theorem dX5_ordersFrom_168 : decode cX5_ordersFrom 168 = .ok (.iadd, 1) := by decide +kernel
theorem dX5_ordersFrom_169 : decode cX5_ordersFrom 169 = .ok (.iaload, 1) := by decide +kernel
theorem dX5_ordersFrom_170 : decode cX5_ordersFrom 170 = .ok (.iadd, 1) := by decide +kernel
theorem dX5_ordersFrom_171 : decode cX5_ordersFrom 171 = .ok (.istore_n 3, 1) := by decide +kernel
theorem dX5_ordersFrom_172 : decode cX5_ordersFrom 172 = .ok (.iinc 4 1, 3) := by decide +kernel
theorem dX5_ordersFrom_175 : decode cX5_ordersFrom 175 = .ok (.goto (-29), 3) := by decide +kernel
theorem dX5_ordersFrom_178 : decode cX5_ordersFrom 178 = .ok (.iload_n 3, 1) := by decide +kernel
theorem dX5_ordersFrom_179 : decode cX5_ordersFrom 179 = .ok (.ireturn, 1) := by decide +kernel
theorem dX5_trend_0 : decode cX5_trend 0 = .ok (.iload_n 3, 1) := by decide +kernel
theorem dX5_trend_1 : decode cX5_trend 1 = .ok (.iconst 2, 1) := by decide +kernel
theorem dX5_trend_2 : decode cX5_trend 2 = .ok (.bipush 6, 2) := by decide +kernel
theorem dX5_trend_4 : decode cX5_trend 4 = .ok (.invokestatic 79, 3) := by decide +kernel
theorem dX5_trend_7 : decode cX5_trend 7 = .ok (.ifCond .eq 40, 3) := by decide +kernel
theorem dX5_trend_10 : decode cX5_trend 10 = .ok (.iload_n 2, 1) := by decide +kernel
theorem dX5_trend_11 : decode cX5_trend 11 = .ok (.iconst 1, 1) := by decide +kernel
theorem dX5_trend_12 : decode cX5_trend 12 = .ok (.sipush 1000, 3) := by decide +kernel
theorem dX5_trend_15 : decode cX5_trend 15 = .ok (.invokestatic 79, 3) := by decide +kernel
theorem dX5_trend_18 : decode cX5_trend 18 = .ok (.ifCond .eq 29, 3) := by decide +kernel
theorem dX5_trend_21 : decode cX5_trend 21 = .ok (.iload_n 1, 1) := by decide +kernel
theorem dX5_trend_22 : decode cX5_trend 22 = .ok (.ifCond .lt 25, 3) := by decide +kernel
theorem dX5_trend_25 : decode cX5_trend 25 = .ok (.iload_n 1, 1) := by decide +kernel
theorem dX5_trend_26 : decode cX5_trend 26 = .ok (.iconst 0, 1) := by decide +kernel
theorem dX5_trend_27 : decode cX5_trend 27 = .ok (.sipush 9999, 3) := by decide +kernel
theorem dX5_trend_30 : decode cX5_trend 30 = .ok (.invokestatic 79, 3) := by decide +kernel
theorem dX5_trend_33 : decode cX5_trend 33 = .ok (.ifCond .eq 14, 3) := by decide +kernel
theorem dX5_trend_36 : decode cX5_trend 36 = .ok (.iload_n 1, 1) := by decide +kernel
theorem dX5_trend_37 : decode cX5_trend 37 = .ok (.iload_n 2, 1) := by decide +kernel
theorem dX5_trend_38 : decode cX5_trend 38 = .ok (.iload_n 3, 1) := by decide +kernel
theorem dX5_trend_39 : decode cX5_trend 39 = .ok (.imul, 1) := by decide +kernel
theorem dX5_trend_40 : decode cX5_trend 40 = .ok (.iadd, 1) := by decide +kernel
theorem dX5_trend_41 : decode cX5_trend 41 = .ok (.sipush 10000, 3) := by decide +kernel
theorem dX5_trend_44 : decode cX5_trend 44 = .ok (.if_icmp .le 7, 3) := by decide +kernel
theorem dX5_trend_47 : decode cX5_trend 47 = .ok (.iconst 1, 1) := by decide +kernel
theorem dX5_trend_48 : decode cX5_trend 48 = .ok (.goto 4, 3) := by decide +kernel
theorem dX5_trend_51 : decode cX5_trend 51 = .ok (.iconst 0, 1) := by decide +kernel
theorem dX5_trend_52 : decode cX5_trend 52 = .ok (.istore 5, 2) := by decide +kernel
theorem dX5_trend_54 : decode cX5_trend 54 = .ok (.aload_n 0, 1) := by decide +kernel
theorem dX5_trend_55 : decode cX5_trend 55 = .ok (.iload 4, 2) := by decide +kernel
theorem dX5_trend_57 : decode cX5_trend 57 = .ok (.iconst 0, 1) := by decide +kernel
theorem dX5_trend_58 : decode cX5_trend 58 = .ok (.iconst 2, 1) := by decide +kernel
theorem dX5_trend_59 : decode cX5_trend 59 = .ok (.invokestatic 79, 3) := by decide +kernel
theorem dX5_trend_62 : decode cX5_trend 62 = .ok (.ifCond .ne 7, 3) := by decide +kernel
theorem dX5_trend_65 : decode cX5_trend 65 = .ok (.iconst 1, 1) := by decide +kernel
theorem dX5_trend_66 : decode cX5_trend 66 = .ok (.goto 4, 3) := by decide +kernel
theorem dX5_trend_69 : decode cX5_trend 69 = .ok (.iconst 0, 1) := by decide +kernel
theorem dX5_trend_70 : decode cX5_trend 70 = .ok (.iload 5, 2) := by decide +kernel
theorem dX5_trend_72 : decode cX5_trend 72 = .ok (.iconst 0, 1) := by decide +kernel
theorem dX5_trend_73 : decode cX5_trend 73 = .ok (.invokevirtual 90, 3) := by decide +kernel
theorem dX5_trend_76 : decode cX5_trend 76 = .ok (.ifCond .eq 5, 3) := by decide +kernel
theorem dX5_trend_79 : decode cX5_trend 79 = .ok (.iconst 0, 1) := by decide +kernel
theorem dX5_trend_80 : decode cX5_trend 80 = .ok (.ireturn, 1) := by decide +kernel
theorem dX5_trend_81 : decode cX5_trend 81 = .ok (.iconst 1, 1) := by decide +kernel
theorem dX5_trend_82 : decode cX5_trend 82 = .ok (.istore 6, 2) := by decide +kernel
theorem dX5_trend_84 : decode cX5_trend 84 = .ok (.iconst 0, 1) := by decide +kernel
theorem dX5_trend_85 : decode cX5_trend 85 = .ok (.istore 7, 2) := by decide +kernel
theorem dX5_trend_87 : decode cX5_trend 87 = .ok (.iload 7, 2) := by decide +kernel
theorem dX5_trend_89 : decode cX5_trend 89 = .ok (.iload_n 3, 1) := by decide +kernel
theorem dX5_trend_90 : decode cX5_trend 90 = .ok (.if_icmp .ge 92, 3) := by decide +kernel
theorem dX5_trend_93 : decode cX5_trend 93 = .ok (.aload_n 0, 1) := by decide +kernel
theorem dX5_trend_94 : decode cX5_trend 94 = .ok (.getfield 60, 3) := by decide +kernel
theorem dX5_trend_97 : decode cX5_trend 97 = .ok (.iload 7, 2) := by decide +kernel
theorem dX5_trend_99 : decode cX5_trend 99 = .ok (.iconst 0, 1) := by decide +kernel
theorem dX5_trend_100 : decode cX5_trend 100 = .ok (.iastore, 1) := by decide +kernel
theorem dX5_trend_101 : decode cX5_trend 101 = .ok (.iload 6, 2) := by decide +kernel
theorem dX5_trend_103 : decode cX5_trend 103 = .ok (.iload 7, 2) := by decide +kernel
theorem dX5_trend_105 : decode cX5_trend 105 = .ok (.iconst 1, 1) := by decide +kernel
theorem dX5_trend_106 : decode cX5_trend 106 = .ok (.iadd, 1) := by decide +kernel
theorem dX5_trend_107 : decode cX5_trend 107 = .ok (.imul, 1) := by decide +kernel
theorem dX5_trend_108 : decode cX5_trend 108 = .ok (.istore 6, 2) := by decide +kernel
theorem dX5_trend_110 : decode cX5_trend 110 = .ok (.iload_n 1, 1) := by decide +kernel
theorem dX5_trend_111 : decode cX5_trend 111 = .ok (.iload_n 2, 1) := by decide +kernel
theorem dX5_trend_112 : decode cX5_trend 112 = .ok (.iload 7, 2) := by decide +kernel
theorem dX5_trend_114 : decode cX5_trend 114 = .ok (.imul, 1) := by decide +kernel
theorem dX5_trend_115 : decode cX5_trend 115 = .ok (.iadd, 1) := by decide +kernel
theorem dX5_trend_116 : decode cX5_trend 116 = .ok (.istore 8, 2) := by decide +kernel
theorem dX5_trend_118 : decode cX5_trend 118 = .ok (.iconst 0, 1) := by decide +kernel
theorem dX5_trend_119 : decode cX5_trend 119 = .ok (.istore 9, 2) := by decide +kernel
theorem dX5_trend_121 : decode cX5_trend 121 = .ok (.iload 9, 2) := by decide +kernel
theorem dX5_trend_123 : decode cX5_trend 123 = .ok (.aload_n 0, 1) := by decide +kernel
theorem dX5_trend_124 : decode cX5_trend 124 = .ok (.getfield 87, 3) := by decide +kernel
theorem dX5_trend_127 : decode cX5_trend 127 = .ok (.if_icmp .ge 49, 3) := by decide +kernel
theorem dX5_trend_130 : decode cX5_trend 130 = .ok (.aload_n 0, 1) := by decide +kernel
theorem dX5_trend_131 : decode cX5_trend 131 = .ok (.getfield 60, 3) := by decide +kernel
theorem dX5_trend_134 : decode cX5_trend 134 = .ok (.iload 7, 2) := by decide +kernel
theorem dX5_trend_136 : decode cX5_trend 136 = .ok (.dup2, 1) := by decide +kernel
theorem dX5_trend_137 : decode cX5_trend 137 = .ok (.iaload, 1) := by decide +kernel
theorem dX5_trend_138 : decode cX5_trend 138 = .ok (.aload_n 0, 1) := by decide +kernel
theorem dX5_trend_139 : decode cX5_trend 139 = .ok (.iload 9, 2) := by decide +kernel
theorem dX5_trend_141 : decode cX5_trend 141 = .ok (.iload 8, 2) := by decide +kernel
theorem dX5_trend_143 : decode cX5_trend 143 = .ok (.iload 8, 2) := by decide +kernel
theorem dX5_trend_145 : decode cX5_trend 145 = .ok (.iload_n 2, 1) := by decide +kernel
theorem dX5_trend_146 : decode cX5_trend 146 = .ok (.iadd, 1) := by decide +kernel
theorem dX5_trend_147 : decode cX5_trend 147 = .ok (.iconst 1, 1) := by decide +kernel
theorem dX5_trend_148 : decode cX5_trend 148 = .ok (.isub, 1) := by decide +kernel
theorem dX5_trend_149 : decode cX5_trend 149 = .ok (.aload_n 0, 1) := by decide +kernel
theorem dX5_trend_150 : decode cX5_trend 150 = .ok (.getfield 48, 3) := by decide +kernel
theorem dX5_trend_153 : decode cX5_trend 153 = .ok (.aload_n 0, 1) := by decide +kernel
theorem dX5_trend_154 : decode cX5_trend 154 = .ok (.getfield 51, 3) := by decide +kernel
theorem dX5_trend_157 : decode cX5_trend 157 = .ok (.invokevirtual 100, 3) := by decide +kernel
theorem dX5_trend_160 : decode cX5_trend 160 = .ok (.ifCond .eq 7, 3) := by decide +kernel
theorem dX5_trend_163 : decode cX5_trend 163 = .ok (.iconst 1, 1) := by decide +kernel
theorem dX5_trend_164 : decode cX5_trend 164 = .ok (.goto 4, 3) := by decide +kernel
theorem dX5_trend_167 : decode cX5_trend 167 = .ok (.iconst 0, 1) := by decide +kernel
theorem dX5_trend_168 : decode cX5_trend 168 = .ok (.iadd, 1) := by decide +kernel
theorem dX5_trend_169 : decode cX5_trend 169 = .ok (.iastore, 1) := by decide +kernel
theorem dX5_trend_170 : decode cX5_trend 170 = .ok (.iinc 9 1, 3) := by decide +kernel
theorem dX5_trend_173 : decode cX5_trend 173 = .ok (.goto (-52), 3) := by decide +kernel
theorem dX5_trend_176 : decode cX5_trend 176 = .ok (.iinc 7 1, 3) := by decide +kernel
theorem dX5_trend_179 : decode cX5_trend 179 = .ok (.goto (-92), 3) := by decide +kernel
theorem dX5_trend_182 : decode cX5_trend 182 = .ok (.iconst 0, 1) := by decide +kernel
theorem dX5_trend_183 : decode cX5_trend 183 = .ok (.istore 7, 2) := by decide +kernel
theorem dX5_trend_185 : decode cX5_trend 185 = .ok (.iconst 0, 1) := by decide +kernel
theorem dX5_trend_186 : decode cX5_trend 186 = .ok (.istore 8, 2) := by decide +kernel
theorem dX5_trend_188 : decode cX5_trend 188 = .ok (.iload 8, 2) := by decide +kernel
theorem dX5_trend_190 : decode cX5_trend 190 = .ok (.iload_n 3, 1) := by decide +kernel
theorem dX5_trend_191 : decode cX5_trend 191 = .ok (.if_icmp .ge 26, 3) := by decide +kernel
theorem dX5_trend_194 : decode cX5_trend 194 = .ok (.iload 7, 2) := by decide +kernel
theorem dX5_trend_196 : decode cX5_trend 196 = .ok (.aload_n 0, 1) := by decide +kernel
theorem dX5_trend_197 : decode cX5_trend 197 = .ok (.iconst 1, 1) := by decide +kernel
theorem dX5_trend_198 : decode cX5_trend 198 = .ok (.iload 8, 2) := by decide +kernel
theorem dX5_trend_200 : decode cX5_trend 200 = .ok (.ishl, 1) := by decide +kernel
theorem dX5_trend_201 : decode cX5_trend 201 = .ok (.iconst 1, 1) := by decide +kernel
theorem dX5_trend_202 : decode cX5_trend 202 = .ok (.isub, 1) := by decide +kernel
theorem dX5_trend_203 : decode cX5_trend 203 = .ok (.iload 8, 2) := by decide +kernel
theorem dX5_trend_205 : decode cX5_trend 205 = .ok (.invokevirtual 131, 3) := by decide +kernel
theorem dX5_trend_208 : decode cX5_trend 208 = .ok (.iadd, 1) := by decide +kernel
theorem dX5_trend_209 : decode cX5_trend 209 = .ok (.istore 7, 2) := by decide +kernel
theorem dX5_trend_211 : decode cX5_trend 211 = .ok (.iinc 8 1, 3) := by decide +kernel
theorem dX5_trend_214 : decode cX5_trend 214 = .ok (.goto (-26), 3) := by decide +kernel
theorem dX5_trend_217 : decode cX5_trend 217 = .ok (.aload_n 0, 1) := by decide +kernel
theorem dX5_trend_218 : decode cX5_trend 218 = .ok (.iload 7, 2) := by decide +kernel
theorem dX5_trend_220 : decode cX5_trend 220 = .ok (.iload_n 3, 1) := by decide +kernel
theorem dX5_trend_221 : decode cX5_trend 221 = .ok (.invokevirtual 134, 3) := by decide +kernel
theorem dX5_trend_224 : decode cX5_trend 224 = .ok (.istore 8, 2) := by decide +kernel
theorem dX5_trend_226 : decode cX5_trend 226 = .ok (.iload 4, 2) := by decide +kernel
theorem dX5_trend_228 : decode cX5_trend 228 = .ok (.ifCond .ne 8, 3) := by decide +kernel
theorem dX5_trend_231 : decode cX5_trend 231 = .ok (.iload 7, 2) := by decide +kernel
theorem dX5_trend_233 : decode cX5_trend 233 = .ok (.goto 24, 3) := by decide +kernel
theorem dX5_trend_236 : decode cX5_trend 236 = .ok (.iload 4, 2) := by decide +kernel
theorem dX5_trend_238 : decode cX5_trend 238 = .ok (.iconst 1, 1) := by decide +kernel
theorem dX5_trend_239 : decode cX5_trend 239 = .ok (.if_icmp .ne 8, 3) := by decide +kernel
theorem dX5_trend_242 : decode cX5_trend 242 = .ok (.iload 8, 2) := by decide +kernel
theorem dX5_trend_244 : decode cX5_trend 244 = .ok (.goto 5, 3) := by decide +kernel
theorem dX5_trend_247 : decode cX5_trend 247 = .ok (.iload 6, 2) := by decide +kernel
theorem dX5_trend_249 : decode cX5_trend 249 = .ok (.iload 8, 2) := by decide +kernel
theorem dX5_trend_251 : decode cX5_trend 251 = .ok (.iload 6, 2) := by decide +kernel
theorem dX5_trend_253 : decode cX5_trend 253 = .ok (.invokestatic 124, 3) := by decide +kernel
theorem dX5_trend_256 : decode cX5_trend 256 = .ok (.idiv, 1) := by decide +kernel
theorem dX5_trend_257 : decode cX5_trend 257 = .ok (.ireturn, 1) := by decide +kernel
theorem dX5_rowsOf_0 : decode cX5_rowsOf 0 = .ok (.iconst 0, 1) := by decide +kernel
theorem dX5_rowsOf_1 : decode cX5_rowsOf 1 = .ok (.istore_n 3, 1) := by decide +kernel
theorem dX5_rowsOf_2 : decode cX5_rowsOf 2 = .ok (.iconst 0, 1) := by decide +kernel
theorem dX5_rowsOf_3 : decode cX5_rowsOf 3 = .ok (.istore 4, 2) := by decide +kernel
theorem dX5_rowsOf_5 : decode cX5_rowsOf 5 = .ok (.iload 4, 2) := by decide +kernel
theorem dX5_rowsOf_7 : decode cX5_rowsOf 7 = .ok (.aload_n 0, 1) := by decide +kernel
theorem dX5_rowsOf_8 : decode cX5_rowsOf 8 = .ok (.getfield 87, 3) := by decide +kernel
theorem dX5_rowsOf_11 : decode cX5_rowsOf 11 = .ok (.if_icmp .ge 36, 3) := by decide +kernel
theorem dX5_rowsOf_14 : decode cX5_rowsOf 14 = .ok (.iload_n 3, 1) := by decide +kernel
theorem dX5_rowsOf_15 : decode cX5_rowsOf 15 = .ok (.aload_n 0, 1) := by decide +kernel
theorem dX5_rowsOf_16 : decode cX5_rowsOf 16 = .ok (.iload 4, 2) := by decide +kernel
theorem dX5_rowsOf_18 : decode cX5_rowsOf 18 = .ok (.aload_n 0, 1) := by decide +kernel
theorem dX5_rowsOf_19 : decode cX5_rowsOf 19 = .ok (.getfield 97, 3) := by decide +kernel
theorem dX5_rowsOf_22 : decode cX5_rowsOf 22 = .ok (.aload_n 0, 1) := by decide +kernel
theorem dX5_rowsOf_23 : decode cX5_rowsOf 23 = .ok (.getfield 44, 3) := by decide +kernel
theorem dX5_rowsOf_26 : decode cX5_rowsOf 26 = .ok (.iload_n 2, 1) := by decide +kernel
theorem dX5_rowsOf_27 : decode cX5_rowsOf 27 = .ok (.iload_n 1, 1) := by decide +kernel
theorem dX5_rowsOf_28 : decode cX5_rowsOf 28 = .ok (.invokevirtual 100, 3) := by decide +kernel
theorem dX5_rowsOf_31 : decode cX5_rowsOf 31 = .ok (.ifCond .eq 7, 3) := by decide +kernel
theorem dX5_rowsOf_34 : decode cX5_rowsOf 34 = .ok (.iconst 1, 1) := by decide +kernel
theorem dX5_rowsOf_35 : decode cX5_rowsOf 35 = .ok (.goto 4, 3) := by decide +kernel
theorem dX5_rowsOf_38 : decode cX5_rowsOf 38 = .ok (.iconst 0, 1) := by decide +kernel
theorem dX5_rowsOf_39 : decode cX5_rowsOf 39 = .ok (.iadd, 1) := by decide +kernel
theorem dX5_rowsOf_40 : decode cX5_rowsOf 40 = .ok (.istore_n 3, 1) := by decide +kernel
theorem dX5_rowsOf_41 : decode cX5_rowsOf 41 = .ok (.iinc 4 1, 3) := by decide +kernel
theorem dX5_rowsOf_44 : decode cX5_rowsOf 44 = .ok (.goto (-39), 3) := by decide +kernel
theorem dX5_rowsOf_47 : decode cX5_rowsOf 47 = .ok (.iload_n 3, 1) := by decide +kernel
theorem dX5_rowsOf_48 : decode cX5_rowsOf 48 = .ok (.ireturn, 1) := by decide +kernel
theorem dX5_people_0 : decode cX5_people 0 = .ok (.aload_n 0, 1) := by decide +kernel
theorem dX5_people_1 : decode cX5_people 1 = .ok (.iload_n 1, 1) := by decide +kernel
theorem dX5_people_2 : decode cX5_people 2 = .ok (.iconst 0, 1) := by decide +kernel
theorem dX5_people_3 : decode cX5_people 3 = .ok (.bipush 9, 2) := by decide +kernel
theorem dX5_people_5 : decode cX5_people 5 = .ok (.invokestatic 79, 3) := by decide +kernel
theorem dX5_people_8 : decode cX5_people 8 = .ok (.ifCond .ne 7, 3) := by decide +kernel
theorem dX5_people_11 : decode cX5_people 11 = .ok (.iconst 1, 1) := by decide +kernel
theorem dX5_people_12 : decode cX5_people 12 = .ok (.goto 4, 3) := by decide +kernel
theorem dX5_people_15 : decode cX5_people 15 = .ok (.iconst 0, 1) := by decide +kernel
theorem dX5_people_16 : decode cX5_people 16 = .ok (.iload_n 2, 1) := by decide +kernel
theorem dX5_people_17 : decode cX5_people 17 = .ok (.iconst 0, 1) := by decide +kernel
theorem dX5_people_18 : decode cX5_people 18 = .ok (.ldc 137, 2) := by decide +kernel
theorem dX5_people_20 : decode cX5_people 20 = .ok (.invokestatic 79, 3) := by decide +kernel
theorem dX5_people_23 : decode cX5_people 23 = .ok (.ifCond .ne 7, 3) := by decide +kernel
theorem dX5_people_26 : decode cX5_people 26 = .ok (.iconst 1, 1) := by decide +kernel
theorem dX5_people_27 : decode cX5_people 27 = .ok (.goto 4, 3) := by decide +kernel
theorem dX5_people_30 : decode cX5_people 30 = .ok (.iconst 0, 1) := by decide +kernel
theorem dX5_people_31 : decode cX5_people 31 = .ok (.iconst 0, 1) := by decide +kernel
theorem dX5_people_32 : decode cX5_people 32 = .ok (.invokevirtual 90, 3) := by decide +kernel
theorem dX5_people_35 : decode cX5_people 35 = .ok (.ifCond .eq 4, 3) := by decide +kernel
theorem dX5_people_38 : decode cX5_people 38 = .ok (.return_, 1) := by decide +kernel
theorem dX5_people_39 : decode cX5_people 39 = .ok (.aload_n 0, 1) := by decide +kernel
theorem dX5_people_40 : decode cX5_people 40 = .ok (.getfield 54, 3) := by decide +kernel
theorem dX5_people_43 : decode cX5_people 43 = .ok (.iload_n 1, 1) := by decide +kernel
theorem dX5_people_44 : decode cX5_people 44 = .ok (.iload_n 2, 1) := by decide +kernel
theorem dX5_people_45 : decode cX5_people 45 = .ok (.iastore, 1) := by decide +kernel
theorem dX5_people_46 : decode cX5_people 46 = .ok (.return_, 1) := by decide +kernel
theorem dX5_perThousand_0 : decode cX5_perThousand 0 = .ok (.iload_n 1, 1) := by decide +kernel
theorem dX5_perThousand_1 : decode cX5_perThousand 1 = .ok (.iconst 0, 1) := by decide +kernel
theorem dX5_perThousand_2 : decode cX5_perThousand 2 = .ok (.bipush 9, 2) := by decide +kernel
theorem dX5_perThousand_4 : decode cX5_perThousand 4 = .ok (.invokestatic 79, 3) := by decide +kernel
theorem dX5_perThousand_7 : decode cX5_perThousand 7 = .ok (.ifCond .ne 7, 3) := by decide +kernel
theorem dX5_perThousand_10 : decode cX5_perThousand 10 = .ok (.iconst 1, 1) := by decide +kernel
theorem dX5_perThousand_11 : decode cX5_perThousand 11 = .ok (.goto 4, 3) := by decide +kernel
theorem dX5_perThousand_14 : decode cX5_perThousand 14 = .ok (.iconst 0, 1) := by decide +kernel
theorem dX5_perThousand_15 : decode cX5_perThousand 15 = .ok (.istore_n 2, 1) := by decide +kernel
theorem dX5_perThousand_16 : decode cX5_perThousand 16 = .ok (.aload_n 0, 1) := by decide +kernel
theorem dX5_perThousand_17 : decode cX5_perThousand 17 = .ok (.iload_n 2, 1) := by decide +kernel
theorem dX5_perThousand_18 : decode cX5_perThousand 18 = .ok (.iload_n 2, 1) := by decide +kernel
theorem dX5_perThousand_19 : decode cX5_perThousand 19 = .ok (.ifCond .ne 24, 3) := by decide +kernel
theorem dX5_perThousand_22 : decode cX5_perThousand 22 = .ok (.aload_n 0, 1) := by decide +kernel
theorem dX5_perThousand_23 : decode cX5_perThousand 23 = .ok (.getfield 54, 3) := by decide +kernel
theorem dX5_perThousand_26 : decode cX5_perThousand 26 = .ok (.iload_n 2, 1) := by decide +kernel
theorem dX5_perThousand_27 : decode cX5_perThousand 27 = .ok (.ifCond .eq 7, 3) := by decide +kernel
theorem dX5_perThousand_30 : decode cX5_perThousand 30 = .ok (.iconst 0, 1) := by decide +kernel
theorem dX5_perThousand_31 : decode cX5_perThousand 31 = .ok (.goto 4, 3) := by decide +kernel
theorem dX5_perThousand_34 : decode cX5_perThousand 34 = .ok (.iload_n 1, 1) := by decide +kernel
theorem dX5_perThousand_35 : decode cX5_perThousand 35 = .ok (.iaload, 1) := by decide +kernel
theorem dX5_perThousand_36 : decode cX5_perThousand 36 = .ok (.ifCond .ne 7, 3) := by decide +kernel
theorem dX5_perThousand_39 : decode cX5_perThousand 39 = .ok (.iconst 1, 1) := by decide +kernel
theorem dX5_perThousand_40 : decode cX5_perThousand 40 = .ok (.goto 4, 3) := by decide +kernel
theorem dX5_perThousand_43 : decode cX5_perThousand 43 = .ok (.iconst 0, 1) := by decide +kernel
theorem dX5_perThousand_44 : decode cX5_perThousand 44 = .ok (.iconst 0, 1) := by decide +kernel
theorem dX5_perThousand_45 : decode cX5_perThousand 45 = .ok (.invokevirtual 90, 3) := by decide +kernel
theorem dX5_perThousand_48 : decode cX5_perThousand 48 = .ok (.ifCond .eq 5, 3) := by decide +kernel
theorem dX5_perThousand_51 : decode cX5_perThousand 51 = .ok (.iconst 0, 1) := by decide +kernel
theorem dX5_perThousand_52 : decode cX5_perThousand 52 = .ok (.ireturn, 1) := by decide +kernel
theorem dX5_perThousand_53 : decode cX5_perThousand 53 = .ok (.sipush 1000, 3) := by decide +kernel
theorem dX5_perThousand_56 : decode cX5_perThousand 56 = .ok (.aload_n 0, 1) := by decide +kernel
theorem dX5_perThousand_57 : decode cX5_perThousand 57 = .ok (.iload_n 1, 1) := by decide +kernel
theorem dX5_perThousand_58 : decode cX5_perThousand 58 = .ok (.aload_n 0, 1) := by decide +kernel
theorem dX5_perThousand_59 : decode cX5_perThousand 59 = .ok (.getfield 48, 3) := by decide +kernel
theorem dX5_perThousand_62 : decode cX5_perThousand 62 = .ok (.invokevirtual 138, 3) := by decide +kernel
theorem dX5_perThousand_65 : decode cX5_perThousand 65 = .ok (.imul, 1) := by decide +kernel
theorem dX5_perThousand_66 : decode cX5_perThousand 66 = .ok (.aload_n 0, 1) := by decide +kernel
theorem dX5_perThousand_67 : decode cX5_perThousand 67 = .ok (.getfield 54, 3) := by decide +kernel
theorem dX5_perThousand_70 : decode cX5_perThousand 70 = .ok (.iload_n 1, 1) := by decide +kernel
theorem dX5_perThousand_71 : decode cX5_perThousand 71 = .ok (.iaload, 1) := by decide +kernel
theorem dX5_perThousand_72 : decode cX5_perThousand 72 = .ok (.idiv, 1) := by decide +kernel
theorem dX5_perThousand_73 : decode cX5_perThousand 73 = .ok (.ireturn, 1) := by decide +kernel
theorem dX5_rank_0 : decode cX5_rank 0 = .ok (.aload_n 0, 1) := by decide +kernel
theorem dX5_rank_1 : decode cX5_rank 1 = .ok (.iload_n 1, 1) := by decide +kernel
theorem dX5_rank_2 : decode cX5_rank 2 = .ok (.iconst 0, 1) := by decide +kernel
theorem dX5_rank_3 : decode cX5_rank 3 = .ok (.bipush 9, 2) := by decide +kernel
theorem dX5_rank_5 : decode cX5_rank 5 = .ok (.invokestatic 79, 3) := by decide +kernel
theorem dX5_rank_8 : decode cX5_rank 8 = .ok (.ifCond .ne 7, 3) := by decide +kernel
theorem dX5_rank_11 : decode cX5_rank 11 = .ok (.iconst 1, 1) := by decide +kernel
theorem dX5_rank_12 : decode cX5_rank 12 = .ok (.goto 4, 3) := by decide +kernel
theorem dX5_rank_15 : decode cX5_rank 15 = .ok (.iconst 0, 1) := by decide +kernel
theorem dX5_rank_16 : decode cX5_rank 16 = .ok (.iconst 0, 1) := by decide +kernel
theorem dX5_rank_17 : decode cX5_rank 17 = .ok (.iconst 0, 1) := by decide +kernel
theorem dX5_rank_18 : decode cX5_rank 18 = .ok (.invokevirtual 90, 3) := by decide +kernel
theorem dX5_rank_21 : decode cX5_rank 21 = .ok (.ifCond .eq 5, 3) := by decide +kernel
theorem dX5_rank_24 : decode cX5_rank 24 = .ok (.iconst 0, 1) := by decide +kernel
theorem dX5_rank_25 : decode cX5_rank 25 = .ok (.ireturn, 1) := by decide +kernel
theorem dX5_rank_26 : decode cX5_rank 26 = .ok (.iconst 1, 1) := by decide +kernel
theorem dX5_rank_27 : decode cX5_rank 27 = .ok (.istore_n 2, 1) := by decide +kernel
theorem dX5_rank_28 : decode cX5_rank 28 = .ok (.iconst 0, 1) := by decide +kernel
theorem dX5_rank_29 : decode cX5_rank 29 = .ok (.istore_n 3, 1) := by decide +kernel
theorem dX5_rank_30 : decode cX5_rank 30 = .ok (.iload_n 3, 1) := by decide +kernel
theorem dX5_rank_31 : decode cX5_rank 31 = .ok (.bipush 10, 2) := by decide +kernel
theorem dX5_rank_33 : decode cX5_rank 33 = .ok (.if_icmp .ge 38, 3) := by decide +kernel
theorem dX5_rank_36 : decode cX5_rank 36 = .ok (.iload_n 2, 1) := by decide +kernel
theorem dX5_rank_37 : decode cX5_rank 37 = .ok (.aload_n 0, 1) := by decide +kernel
theorem dX5_rank_38 : decode cX5_rank 38 = .ok (.iload_n 3, 1) := by decide +kernel
theorem dX5_rank_39 : decode cX5_rank 39 = .ok (.aload_n 0, 1) := by decide +kernel
theorem dX5_rank_40 : decode cX5_rank 40 = .ok (.getfield 48, 3) := by decide +kernel
theorem dX5_rank_43 : decode cX5_rank 43 = .ok (.invokevirtual 138, 3) := by decide +kernel
theorem dX5_rank_46 : decode cX5_rank 46 = .ok (.aload_n 0, 1) := by decide +kernel
theorem dX5_rank_47 : decode cX5_rank 47 = .ok (.iload_n 1, 1) := by decide +kernel
theorem dX5_rank_48 : decode cX5_rank 48 = .ok (.aload_n 0, 1) := by decide +kernel
theorem dX5_rank_49 : decode cX5_rank 49 = .ok (.getfield 48, 3) := by decide +kernel
theorem dX5_rank_52 : decode cX5_rank 52 = .ok (.invokevirtual 138, 3) := by decide +kernel
theorem dX5_rank_55 : decode cX5_rank 55 = .ok (.if_icmp .le 7, 3) := by decide +kernel
theorem dX5_rank_58 : decode cX5_rank 58 = .ok (.iconst 1, 1) := by decide +kernel
theorem dX5_rank_59 : decode cX5_rank 59 = .ok (.goto 4, 3) := by decide +kernel
theorem dX5_rank_62 : decode cX5_rank 62 = .ok (.iconst 0, 1) := by decide +kernel
theorem dX5_rank_63 : decode cX5_rank 63 = .ok (.iadd, 1) := by decide +kernel
theorem dX5_rank_64 : decode cX5_rank 64 = .ok (.istore_n 2, 1) := by decide +kernel
theorem dX5_rank_65 : decode cX5_rank 65 = .ok (.iinc 3 1, 3) := by decide +kernel
theorem dX5_rank_68 : decode cX5_rank 68 = .ok (.goto (-38), 3) := by decide +kernel
theorem dX5_rank_71 : decode cX5_rank 71 = .ok (.iload_n 2, 1) := by decide +kernel
theorem dX5_rank_72 : decode cX5_rank 72 = .ok (.ireturn, 1) := by decide +kernel
theorem dX5_least_0 : decode cX5_least 0 = .ok (.aload_n 0, 1) := by decide +kernel
theorem dX5_least_1 : decode cX5_least 1 = .ok (.iload_n 1, 1) := by decide +kernel
theorem dX5_least_2 : decode cX5_least 2 = .ok (.iconst 1, 1) := by decide +kernel
theorem dX5_least_3 : decode cX5_least 3 = .ok (.bipush 100, 2) := by decide +kernel
theorem dX5_least_5 : decode cX5_least 5 = .ok (.invokestatic 79, 3) := by decide +kernel
theorem dX5_least_8 : decode cX5_least 8 = .ok (.ifCond .ne 7, 3) := by decide +kernel
theorem dX5_least_11 : decode cX5_least 11 = .ok (.iconst 1, 1) := by decide +kernel
theorem dX5_least_12 : decode cX5_least 12 = .ok (.goto 4, 3) := by decide +kernel
theorem dX5_least_15 : decode cX5_least 15 = .ok (.iconst 0, 1) := by decide +kernel
theorem dX5_least_16 : decode cX5_least 16 = .ok (.iconst 0, 1) := by decide +kernel
theorem dX5_least_17 : decode cX5_least 17 = .ok (.iconst 0, 1) := by decide +kernel
theorem dX5_least_18 : decode cX5_least 18 = .ok (.invokevirtual 90, 3) := by decide +kernel
theorem dX5_least_21 : decode cX5_least 21 = .ok (.ifCond .eq 4, 3) := by decide +kernel
theorem dX5_least_24 : decode cX5_least 24 = .ok (.return_, 1) := by decide +kernel
theorem dX5_least_25 : decode cX5_least 25 = .ok (.aload_n 0, 1) := by decide +kernel
theorem dX5_least_26 : decode cX5_least 26 = .ok (.iload_n 1, 1) := by decide +kernel
theorem dX5_least_27 : decode cX5_least 27 = .ok (.putfield 57, 3) := by decide +kernel
theorem dX5_least_30 : decode cX5_least 30 = .ok (.return_, 1) := by decide +kernel
theorem dX5_join_0 : decode cX5_join 0 = .ok (.iconst 0, 1) := by decide +kernel
theorem dX5_join_1 : decode cX5_join 1 = .ok (.istore_n 1, 1) := by decide +kernel
theorem dX5_join_2 : decode cX5_join 2 = .ok (.iconst 0, 1) := by decide +kernel
theorem dX5_join_3 : decode cX5_join 3 = .ok (.istore_n 2, 1) := by decide +kernel
theorem dX5_join_4 : decode cX5_join 4 = .ok (.iconst 0, 1) := by decide +kernel
theorem dX5_join_5 : decode cX5_join 5 = .ok (.istore_n 3, 1) := by decide +kernel
theorem dX5_join_6 : decode cX5_join 6 = .ok (.iload_n 3, 1) := by decide +kernel
theorem dX5_join_7 : decode cX5_join 7 = .ok (.aload_n 0, 1) := by decide +kernel
theorem dX5_join_8 : decode cX5_join 8 = .ok (.getfield 87, 3) := by decide +kernel
theorem dX5_join_11 : decode cX5_join 11 = .ok (.if_icmp .ge 46, 3) := by decide +kernel
theorem dX5_join_14 : decode cX5_join 14 = .ok (.iload_n 1, 1) := by decide +kernel
theorem dX5_join_15 : decode cX5_join 15 = .ok (.aload_n 0, 1) := by decide +kernel
theorem dX5_join_16 : decode cX5_join 16 = .ok (.getfield 29, 3) := by decide +kernel
theorem dX5_join_19 : decode cX5_join 19 = .ok (.iload_n 3, 1) := by decide +kernel
theorem dX5_join_20 : decode cX5_join 20 = .ok (.baload, 1) := by decide +kernel
theorem dX5_join_21 : decode cX5_join 21 = .ok (.ifCond .eq 27, 3) := by decide +kernel
theorem dX5_join_24 : decode cX5_join 24 = .ok (.aload_n 0, 1) := by decide +kernel
theorem dX5_join_25 : decode cX5_join 25 = .ok (.getfield 7, 3) := by decide +kernel
theorem dX5_join_28 : decode cX5_join 28 = .ok (.iload_n 3, 1) := by decide +kernel
theorem dX5_join_29 : decode cX5_join 29 = .ok (.iaload, 1) := by decide +kernel
theorem dX5_join_30 : decode cX5_join 30 = .ok (.aload_n 0, 1) := by decide +kernel
theorem dX5_join_31 : decode cX5_join 31 = .ok (.getfield 97, 3) := by decide +kernel
theorem dX5_join_34 : decode cX5_join 34 = .ok (.aload_n 0, 1) := by decide +kernel
theorem dX5_join_35 : decode cX5_join 35 = .ok (.getfield 44, 3) := by decide +kernel
theorem dX5_join_38 : decode cX5_join 38 = .ok (.invokestatic 79, 3) := by decide +kernel
theorem dX5_join_41 : decode cX5_join 41 = .ok (.ifCond .eq 7, 3) := by decide +kernel
theorem dX5_join_44 : decode cX5_join 44 = .ok (.iconst 1, 1) := by decide +kernel
theorem dX5_join_45 : decode cX5_join 45 = .ok (.goto 4, 3) := by decide +kernel
theorem dX5_join_48 : decode cX5_join 48 = .ok (.iconst 0, 1) := by decide +kernel
theorem dX5_join_49 : decode cX5_join 49 = .ok (.iadd, 1) := by decide +kernel
theorem dX5_join_50 : decode cX5_join 50 = .ok (.istore_n 1, 1) := by decide +kernel
theorem dX5_join_51 : decode cX5_join 51 = .ok (.iinc 3 1, 3) := by decide +kernel
theorem dX5_join_54 : decode cX5_join 54 = .ok (.goto (-48), 3) := by decide +kernel
theorem dX5_join_57 : decode cX5_join 57 = .ok (.iconst 0, 1) := by decide +kernel
theorem dX5_join_58 : decode cX5_join 58 = .ok (.istore_n 3, 1) := by decide +kernel
theorem dX5_join_59 : decode cX5_join 59 = .ok (.iload_n 3, 1) := by decide +kernel
theorem dX5_join_60 : decode cX5_join 60 = .ok (.bipush 10, 2) := by decide +kernel
theorem dX5_join_62 : decode cX5_join 62 = .ok (.if_icmp .ge 72, 3) := by decide +kernel
theorem dX5_join_65 : decode cX5_join 65 = .ok (.aload_n 0, 1) := by decide +kernel
theorem dX5_join_66 : decode cX5_join 66 = .ok (.iload_n 3, 1) := by decide +kernel
theorem dX5_join_67 : decode cX5_join 67 = .ok (.iconst (-1), 1) := by decide +kernel
theorem dX5_join_68 : decode cX5_join 68 = .ok (.invokevirtual 138, 3) := by decide +kernel
theorem dX5_join_71 : decode cX5_join 71 = .ok (.istore 4, 2) := by decide +kernel
theorem dX5_join_73 : decode cX5_join 73 = .ok (.aload_n 0, 1) := by decide +kernel
theorem dX5_join_74 : decode cX5_join 74 = .ok (.getfield 69, 3) := by decide +kernel
theorem dX5_join_77 : decode cX5_join 77 = .ok (.iload_n 3, 1) := by decide +kernel
theorem dX5_join_78 : decode cX5_join 78 = .ok (.iload 4, 2) := by decide +kernel
theorem dX5_join_80 : decode cX5_join 80 = .ok (.iconst 1, 1) := by decide +kernel
theorem dX5_join_81 : decode cX5_join 81 = .ok (.aload_n 0, 1) := by decide +kernel
theorem dX5_join_82 : decode cX5_join 82 = .ok (.getfield 57, 3) := by decide +kernel
theorem dX5_join_85 : decode cX5_join 85 = .ok (.iconst 1, 1) := by decide +kernel
theorem dX5_join_86 : decode cX5_join 86 = .ok (.isub, 1) := by decide +kernel
theorem dX5_join_87 : decode cX5_join 87 = .ok (.invokestatic 79, 3) := by decide +kernel
theorem dX5_join_90 : decode cX5_join 90 = .ok (.bastore, 1) := by decide +kernel
theorem dX5_join_91 : decode cX5_join 91 = .ok (.iload_n 1, 1) := by decide +kernel
theorem dX5_join_92 : decode cX5_join 92 = .ok (.aload_n 0, 1) := by decide +kernel
theorem dX5_join_93 : decode cX5_join 93 = .ok (.getfield 69, 3) := by decide +kernel
theorem dX5_join_96 : decode cX5_join 96 = .ok (.iload_n 3, 1) := by decide +kernel
theorem dX5_join_97 : decode cX5_join 97 = .ok (.baload, 1) := by decide +kernel
theorem dX5_join_98 : decode cX5_join 98 = .ok (.ifCond .eq 8, 3) := by decide +kernel
theorem dX5_join_101 : decode cX5_join 101 = .ok (.iload 4, 2) := by decide +kernel
theorem dX5_join_103 : decode cX5_join 103 = .ok (.goto 4, 3) := by decide +kernel
theorem dX5_join_106 : decode cX5_join 106 = .ok (.iconst 0, 1) := by decide +kernel
theorem dX5_join_107 : decode cX5_join 107 = .ok (.iadd, 1) := by decide +kernel
theorem dX5_join_108 : decode cX5_join 108 = .ok (.istore_n 1, 1) := by decide +kernel
theorem dX5_join_109 : decode cX5_join 109 = .ok (.iload_n 2, 1) := by decide +kernel
theorem dX5_join_110 : decode cX5_join 110 = .ok (.ifCond .ne 12, 3) := by decide +kernel
theorem dX5_join_113 : decode cX5_join 113 = .ok (.aload_n 0, 1) := by decide +kernel
theorem dX5_join_114 : decode cX5_join 114 = .ok (.getfield 69, 3) := by decide +kernel
theorem dX5_join_117 : decode cX5_join 117 = .ok (.iload_n 3, 1) := by decide +kernel
theorem dX5_join_118 : decode cX5_join 118 = .ok (.baload, 1) := by decide +kernel
theorem dX5_join_119 : decode cX5_join 119 = .ok (.ifCond .eq 7, 3) := by decide +kernel
theorem dX5_join_122 : decode cX5_join 122 = .ok (.iconst 1, 1) := by decide +kernel
theorem dX5_join_123 : decode cX5_join 123 = .ok (.goto 4, 3) := by decide +kernel
theorem dX5_join_126 : decode cX5_join 126 = .ok (.iconst 0, 1) := by decide +kernel
theorem dX5_join_127 : decode cX5_join 127 = .ok (.istore_n 2, 1) := by decide +kernel
theorem dX5_join_128 : decode cX5_join 128 = .ok (.iinc 3 1, 3) := by decide +kernel
theorem dX5_join_131 : decode cX5_join 131 = .ok (.goto (-72), 3) := by decide +kernel
theorem dX5_join_134 : decode cX5_join 134 = .ok (.iload_n 2, 1) := by decide +kernel
theorem dX5_join_135 : decode cX5_join 135 = .ok (.ifCond .ne 5, 3) := by decide +kernel
theorem dX5_join_138 : decode cX5_join 138 = .ok (.iconst 0, 1) := by decide +kernel
theorem dX5_join_139 : decode cX5_join 139 = .ok (.ireturn, 1) := by decide +kernel
theorem dX5_join_140 : decode cX5_join 140 = .ok (.iconst 1, 1) := by decide +kernel
theorem dX5_join_141 : decode cX5_join 141 = .ok (.istore_n 3, 1) := by decide +kernel
theorem dX5_join_142 : decode cX5_join 142 = .ok (.iload_n 1, 1) := by decide +kernel
theorem dX5_join_143 : decode cX5_join 143 = .ok (.aload_n 0, 1) := by decide +kernel
theorem dX5_join_144 : decode cX5_join 144 = .ok (.getfield 57, 3) := by decide +kernel
theorem dX5_join_147 : decode cX5_join 147 = .ok (.if_icmp .ge 108, 3) := by decide +kernel
theorem dX5_join_150 : decode cX5_join 150 = .ok (.iload_n 3, 1) := by decide +kernel
theorem dX5_join_151 : decode cX5_join 151 = .ok (.ifCond .eq 104, 3) := by decide +kernel
theorem dX5_join_154 : decode cX5_join 154 = .ok (.iconst (-1), 1) := by decide +kernel
theorem dX5_join_155 : decode cX5_join 155 = .ok (.istore 4, 2) := by decide +kernel
theorem dX5_join_157 : decode cX5_join 157 = .ok (.iconst 0, 1) := by decide +kernel
theorem dX5_join_158 : decode cX5_join 158 = .ok (.istore 5, 2) := by decide +kernel
theorem dX5_join_160 : decode cX5_join 160 = .ok (.iload 5, 2) := by decide +kernel
theorem dX5_join_162 : decode cX5_join 162 = .ok (.bipush 10, 2) := by decide +kernel
theorem dX5_join_164 : decode cX5_join 164 = .ok (.if_icmp .ge 55, 3) := by decide +kernel
theorem dX5_join_167 : decode cX5_join 167 = .ok (.aload_n 0, 1) := by decide +kernel
theorem dX5_join_168 : decode cX5_join 168 = .ok (.getfield 69, 3) := by decide +kernel
theorem dX5_join_171 : decode cX5_join 171 = .ok (.iload 5, 2) := by decide +kernel
theorem dX5_join_173 : decode cX5_join 173 = .ok (.baload, 1) := by decide +kernel
theorem dX5_join_174 : decode cX5_join 174 = .ok (.ifCond .ne 39, 3) := by decide +kernel
theorem dX5_join_177 : decode cX5_join 177 = .ok (.aload_n 0, 1) := by decide +kernel
theorem dX5_join_178 : decode cX5_join 178 = .ok (.iload 5, 2) := by decide +kernel
theorem dX5_join_180 : decode cX5_join 180 = .ok (.iconst (-1), 1) := by decide +kernel
theorem dX5_join_181 : decode cX5_join 181 = .ok (.invokevirtual 138, 3) := by decide +kernel
theorem dX5_join_184 : decode cX5_join 184 = .ok (.ifCond .le 29, 3) := by decide +kernel
theorem dX5_join_187 : decode cX5_join 187 = .ok (.iload 4, 2) := by decide +kernel
theorem dX5_join_189 : decode cX5_join 189 = .ok (.ifCond .lt 20, 3) := by decide +kernel
theorem dX5_join_192 : decode cX5_join 192 = .ok (.aload_n 0, 1) := by decide +kernel
theorem dX5_join_193 : decode cX5_join 193 = .ok (.iload 5, 2) := by decide +kernel
theorem dX5_join_195 : decode cX5_join 195 = .ok (.iconst (-1), 1) := by decide +kernel
theorem dX5_join_196 : decode cX5_join 196 = .ok (.invokevirtual 138, 3) := by decide +kernel
theorem dX5_join_199 : decode cX5_join 199 = .ok (.aload_n 0, 1) := by decide +kernel
theorem dX5_join_200 : decode cX5_join 200 = .ok (.iload 4, 2) := by decide +kernel
theorem dX5_join_202 : decode cX5_join 202 = .ok (.iconst (-1), 1) := by decide +kernel
theorem dX5_join_203 : decode cX5_join 203 = .ok (.invokevirtual 138, 3) := by decide +kernel
theorem dX5_join_206 : decode cX5_join 206 = .ok (.if_icmp .ge 7, 3) := by decide +kernel
theorem dX5_join_209 : decode cX5_join 209 = .ok (.iload 5, 2) := by decide +kernel
theorem dX5_join_211 : decode cX5_join 211 = .ok (.istore 4, 2) := by decide +kernel
theorem dX5_join_213 : decode cX5_join 213 = .ok (.iinc 5 1, 3) := by decide +kernel
theorem dX5_join_216 : decode cX5_join 216 = .ok (.goto (-56), 3) := by decide +kernel
theorem dX5_join_219 : decode cX5_join 219 = .ok (.iload 4, 2) := by decide +kernel
theorem dX5_join_221 : decode cX5_join 221 = .ok (.ifCond .lt 7, 3) := by decide +kernel
theorem dX5_join_224 : decode cX5_join 224 = .ok (.iconst 1, 1) := by decide +kernel
theorem dX5_join_225 : decode cX5_join 225 = .ok (.goto 4, 3) := by decide +kernel
theorem dX5_join_228 : decode cX5_join 228 = .ok (.iconst 0, 1) := by decide +kernel
theorem dX5_join_229 : decode cX5_join 229 = .ok (.istore_n 3, 1) := by decide +kernel
theorem dX5_join_230 : decode cX5_join 230 = .ok (.iload_n 3, 1) := by decide +kernel
theorem dX5_join_231 : decode cX5_join 231 = .ok (.ifCond .eq 21, 3) := by decide +kernel
theorem dX5_join_234 : decode cX5_join 234 = .ok (.aload_n 0, 1) := by decide +kernel
theorem dX5_join_235 : decode cX5_join 235 = .ok (.getfield 69, 3) := by decide +kernel
theorem dX5_join_238 : decode cX5_join 238 = .ok (.iload 4, 2) := by decide +kernel
theorem dX5_join_240 : decode cX5_join 240 = .ok (.iconst 1, 1) := by decide +kernel
theorem dX5_join_241 : decode cX5_join 241 = .ok (.bastore, 1) := by decide +kernel
theorem dX5_join_242 : decode cX5_join 242 = .ok (.iload_n 1, 1) := by decide +kernel
theorem dX5_join_243 : decode cX5_join 243 = .ok (.aload_n 0, 1) := by decide +kernel
theorem dX5_join_244 : decode cX5_join 244 = .ok (.iload 4, 2) := by decide +kernel
theorem dX5_join_246 : decode cX5_join 246 = .ok (.iconst (-1), 1) := by decide +kernel
theorem dX5_join_247 : decode cX5_join 247 = .ok (.invokevirtual 138, 3) := by decide +kernel
theorem dX5_join_250 : decode cX5_join 250 = .ok (.iadd, 1) := by decide +kernel
theorem dX5_join_251 : decode cX5_join 251 = .ok (.istore_n 1, 1) := by decide +kernel
theorem dX5_join_252 : decode cX5_join 252 = .ok (.goto (-110), 3) := by decide +kernel
theorem dX5_join_255 : decode cX5_join 255 = .ok (.iload_n 1, 1) := by decide +kernel
theorem dX5_join_256 : decode cX5_join 256 = .ok (.ireturn, 1) := by decide +kernel
theorem dX5_shown_0 : decode cX5_shown 0 = .ok (.aload_n 0, 1) := by decide +kernel
theorem dX5_shown_1 : decode cX5_shown 1 = .ok (.iload_n 1, 1) := by decide +kernel
theorem dX5_shown_2 : decode cX5_shown 2 = .ok (.iconst 0, 1) := by decide +kernel
theorem dX5_shown_3 : decode cX5_shown 3 = .ok (.bipush 9, 2) := by decide +kernel
theorem dX5_shown_5 : decode cX5_shown 5 = .ok (.invokestatic 79, 3) := by decide +kernel
theorem dX5_shown_8 : decode cX5_shown 8 = .ok (.ifCond .ne 7, 3) := by decide +kernel
theorem dX5_shown_11 : decode cX5_shown 11 = .ok (.iconst 1, 1) := by decide +kernel
theorem dX5_shown_12 : decode cX5_shown 12 = .ok (.goto 4, 3) := by decide +kernel
theorem dX5_shown_15 : decode cX5_shown 15 = .ok (.iconst 0, 1) := by decide +kernel
theorem dX5_shown_16 : decode cX5_shown 16 = .ok (.iconst 0, 1) := by decide +kernel
theorem dX5_shown_17 : decode cX5_shown 17 = .ok (.iconst 0, 1) := by decide +kernel
theorem dX5_shown_18 : decode cX5_shown 18 = .ok (.invokevirtual 90, 3) := by decide +kernel
theorem dX5_shown_21 : decode cX5_shown 21 = .ok (.ifCond .eq 5, 3) := by decide +kernel
theorem dX5_shown_24 : decode cX5_shown 24 = .ok (.iconst 0, 1) := by decide +kernel
theorem dX5_shown_25 : decode cX5_shown 25 = .ok (.ireturn, 1) := by decide +kernel
theorem dX5_shown_26 : decode cX5_shown 26 = .ok (.aload_n 0, 1) := by decide +kernel
theorem dX5_shown_27 : decode cX5_shown 27 = .ok (.invokevirtual 141, 3) := by decide +kernel
theorem dX5_shown_30 : decode cX5_shown 30 = .ok (.pop, 1) := by decide +kernel
theorem dX5_shown_31 : decode cX5_shown 31 = .ok (.aload_n 0, 1) := by decide +kernel
theorem dX5_shown_32 : decode cX5_shown 32 = .ok (.getfield 69, 3) := by decide +kernel
theorem dX5_shown_35 : decode cX5_shown 35 = .ok (.iload_n 1, 1) := by decide +kernel
theorem dX5_shown_36 : decode cX5_shown 36 = .ok (.baload, 1) := by decide +kernel
theorem dX5_shown_37 : decode cX5_shown 37 = .ok (.ifCond .eq 7, 3) := by decide +kernel
theorem dX5_shown_40 : decode cX5_shown 40 = .ok (.iconst (-1), 1) := by decide +kernel
theorem dX5_shown_41 : decode cX5_shown 41 = .ok (.goto 9, 3) := by decide +kernel
theorem dX5_shown_44 : decode cX5_shown 44 = .ok (.aload_n 0, 1) := by decide +kernel
theorem dX5_shown_45 : decode cX5_shown 45 = .ok (.iload_n 1, 1) := by decide +kernel
theorem dX5_shown_46 : decode cX5_shown 46 = .ok (.iconst (-1), 1) := by decide +kernel
theorem dX5_shown_47 : decode cX5_shown 47 = .ok (.invokevirtual 138, 3) := by decide +kernel
theorem dX5_shown_50 : decode cX5_shown 50 = .ok (.ireturn, 1) := by decide +kernel
theorem dX5_joined_0 : decode cX5_joined 0 = .ok (.aload_n 0, 1) := by decide +kernel
theorem dX5_joined_1 : decode cX5_joined 1 = .ok (.iconst 0, 1) := by decide +kernel
theorem dX5_joined_2 : decode cX5_joined 2 = .ok (.putfield 72, 3) := by decide +kernel
theorem dX5_joined_5 : decode cX5_joined 5 = .ok (.aload_n 0, 1) := by decide +kernel
theorem dX5_joined_6 : decode cX5_joined 6 = .ok (.invokevirtual 141, 3) := by decide +kernel
theorem dX5_joined_9 : decode cX5_joined 9 = .ok (.ireturn, 1) := by decide +kernel
theorem dX5_work_0 : decode cX5_work 0 = .ok (.aload_n 0, 1) := by decide +kernel
theorem dX5_work_1 : decode cX5_work 1 = .ok (.iload_n 1, 1) := by decide +kernel
theorem dX5_work_2 : decode cX5_work 2 = .ok (.iconst 0, 1) := by decide +kernel
theorem dX5_work_3 : decode cX5_work 3 = .ok (.iconst 5, 1) := by decide +kernel
theorem dX5_work_4 : decode cX5_work 4 = .ok (.invokestatic 79, 3) := by decide +kernel
theorem dX5_work_7 : decode cX5_work 7 = .ok (.ifCond .eq 12, 3) := by decide +kernel
theorem dX5_work_10 : decode cX5_work 10 = .ok (.iload_n 2, 1) := by decide +kernel
theorem dX5_work_11 : decode cX5_work 11 = .ok (.iconst 0, 1) := by decide +kernel
theorem dX5_work_12 : decode cX5_work 12 = .ok (.iconst 1, 1) := by decide +kernel
theorem dX5_work_13 : decode cX5_work 13 = .ok (.invokestatic 79, 3) := by decide +kernel
theorem dX5_work_16 : decode cX5_work 16 = .ok (.ifCond .ne 7, 3) := by decide +kernel
theorem dX5_work_19 : decode cX5_work 19 = .ok (.iconst 1, 1) := by decide +kernel
theorem dX5_work_20 : decode cX5_work 20 = .ok (.goto 4, 3) := by decide +kernel
theorem dX5_work_23 : decode cX5_work 23 = .ok (.iconst 0, 1) := by decide +kernel
theorem dX5_work_24 : decode cX5_work 24 = .ok (.iconst 0, 1) := by decide +kernel
theorem dX5_work_25 : decode cX5_work 25 = .ok (.iconst 0, 1) := by decide +kernel
theorem dX5_work_26 : decode cX5_work 26 = .ok (.invokevirtual 90, 3) := by decide +kernel
theorem dX5_work_29 : decode cX5_work 29 = .ok (.ifCond .eq 5, 3) := by decide +kernel
theorem dX5_work_32 : decode cX5_work 32 = .ok (.iconst 0, 1) := by decide +kernel
theorem dX5_work_33 : decode cX5_work 33 = .ok (.ireturn, 1) := by decide +kernel
theorem dX5_work_34 : decode cX5_work 34 = .ok (.iconst 0, 1) := by decide +kernel
theorem dX5_work_35 : decode cX5_work 35 = .ok (.istore_n 3, 1) := by decide +kernel
theorem dX5_work_36 : decode cX5_work 36 = .ok (.iconst 0, 1) := by decide +kernel
theorem dX5_work_37 : decode cX5_work 37 = .ok (.istore 4, 2) := by decide +kernel
theorem dX5_work_39 : decode cX5_work 39 = .ok (.iload 4, 2) := by decide +kernel
theorem dX5_work_41 : decode cX5_work 41 = .ok (.aload_n 0, 1) := by decide +kernel
theorem dX5_work_42 : decode cX5_work 42 = .ok (.getfield 87, 3) := by decide +kernel
theorem dX5_work_45 : decode cX5_work 45 = .ok (.if_icmp .ge 97, 3) := by decide +kernel
theorem dX5_work_48 : decode cX5_work 48 = .ok (.aload_n 0, 1) := by decide +kernel
theorem dX5_work_49 : decode cX5_work 49 = .ok (.iload 4, 2) := by decide +kernel
theorem dX5_work_51 : decode cX5_work 51 = .ok (.aload_n 0, 1) := by decide +kernel
theorem dX5_work_52 : decode cX5_work 52 = .ok (.getfield 97, 3) := by decide +kernel
theorem dX5_work_55 : decode cX5_work 55 = .ok (.aload_n 0, 1) := by decide +kernel
theorem dX5_work_56 : decode cX5_work 56 = .ok (.getfield 44, 3) := by decide +kernel
theorem dX5_work_59 : decode cX5_work 59 = .ok (.iconst (-1), 1) := by decide +kernel
theorem dX5_work_60 : decode cX5_work 60 = .ok (.iconst (-1), 1) := by decide +kernel
theorem dX5_work_61 : decode cX5_work 61 = .ok (.invokevirtual 100, 3) := by decide +kernel
theorem dX5_work_64 : decode cX5_work 64 = .ok (.ifCond .eq 72, 3) := by decide +kernel
theorem dX5_work_67 : decode cX5_work 67 = .ok (.aload_n 0, 1) := by decide +kernel
theorem dX5_work_68 : decode cX5_work 68 = .ok (.getfield 22, 3) := by decide +kernel
theorem dX5_work_71 : decode cX5_work 71 = .ok (.iload 4, 2) := by decide +kernel
theorem dX5_work_73 : decode cX5_work 73 = .ok (.iaload, 1) := by decide +kernel
theorem dX5_work_74 : decode cX5_work 74 = .ok (.iload_n 1, 1) := by decide +kernel
theorem dX5_work_75 : decode cX5_work 75 = .ok (.if_icmp .ne 61, 3) := by decide +kernel
theorem dX5_work_78 : decode cX5_work 78 = .ok (.aload_n 0, 1) := by decide +kernel
theorem dX5_work_79 : decode cX5_work 79 = .ok (.getfield 32, 3) := by decide +kernel
theorem dX5_work_82 : decode cX5_work 82 = .ok (.iload 4, 2) := by decide +kernel
theorem dX5_work_84 : decode cX5_work 84 = .ok (.iaload, 1) := by decide +kernel
theorem dX5_work_85 : decode cX5_work 85 = .ok (.ifCond .le 13, 3) := by decide +kernel
theorem dX5_work_88 : decode cX5_work 88 = .ok (.aload_n 0, 1) := by decide +kernel
theorem dX5_work_89 : decode cX5_work 89 = .ok (.getfield 32, 3) := by decide +kernel
theorem dX5_work_92 : decode cX5_work 92 = .ok (.iload 4, 2) := by decide +kernel
theorem dX5_work_94 : decode cX5_work 94 = .ok (.iaload, 1) := by decide +kernel
theorem dX5_work_95 : decode cX5_work 95 = .ok (.goto 4, 3) := by decide +kernel
theorem dX5_work_98 : decode cX5_work 98 = .ok (.iconst 0, 1) := by decide +kernel
theorem dX5_work_99 : decode cX5_work 99 = .ok (.aload_n 0, 1) := by decide +kernel
theorem dX5_work_100 : decode cX5_work 100 = .ok (.getfield 35, 3) := by decide +kernel
theorem dX5_work_103 : decode cX5_work 103 = .ok (.iload 4, 2) := by decide +kernel
theorem dX5_work_105 : decode cX5_work 105 = .ok (.iaload, 1) := by decide +kernel
theorem dX5_work_106 : decode cX5_work 106 = .ok (.ifCond .le 13, 3) := by decide +kernel
theorem dX5_work_109 : decode cX5_work 109 = .ok (.aload_n 0, 1) := by decide +kernel
theorem dX5_work_110 : decode cX5_work 110 = .ok (.getfield 35, 3) := by decide +kernel
theorem dX5_work_113 : decode cX5_work 113 = .ok (.iload 4, 2) := by decide +kernel
theorem dX5_work_115 : decode cX5_work 115 = .ok (.iaload, 1) := by decide +kernel
theorem dX5_work_116 : decode cX5_work 116 = .ok (.goto 4, 3) := by decide +kernel
theorem dX5_work_119 : decode cX5_work 119 = .ok (.iconst 0, 1) := by decide +kernel
theorem dX5_work_120 : decode cX5_work 120 = .ok (.iadd, 1) := by decide +kernel
theorem dX5_work_121 : decode cX5_work 121 = .ok (.istore 5, 2) := by decide +kernel
theorem dX5_work_123 : decode cX5_work 123 = .ok (.iload_n 3, 1) := by decide +kernel
theorem dX5_work_124 : decode cX5_work 124 = .ok (.iload_n 2, 1) := by decide +kernel
theorem dX5_work_125 : decode cX5_work 125 = .ok (.ifCond .ne 7, 3) := by decide +kernel
theorem dX5_work_128 : decode cX5_work 128 = .ok (.iconst 1, 1) := by decide +kernel
theorem dX5_work_129 : decode cX5_work 129 = .ok (.goto 5, 3) := by decide +kernel
theorem dX5_work_132 : decode cX5_work 132 = .ok (.iload 5, 2) := by decide +kernel
theorem dX5_work_134 : decode cX5_work 134 = .ok (.iadd, 1) := by decide +kernel
theorem dX5_work_135 : decode cX5_work 135 = .ok (.istore_n 3, 1) := by decide +kernel
theorem dX5_work_136 : decode cX5_work 136 = .ok (.iinc 4 1, 3) := by decide +kernel
theorem dX5_work_139 : decode cX5_work 139 = .ok (.goto (-100), 3) := by decide +kernel
theorem dX5_work_142 : decode cX5_work 142 = .ok (.iload_n 3, 1) := by decide +kernel
theorem dX5_work_143 : decode cX5_work 143 = .ok (.ireturn, 1) := by decide +kernel
end
section
theorem dL_row_0 : decode cL_row 0 = .ok (.aload 7, 2) := by decide +kernel
theorem dL_row_2 : decode cL_row 2 = .ok (.iconst 0, 1) := by decide +kernel
theorem dL_row_3 : decode cL_row 3 = .ok (.aload_n 0, 1) := by decide +kernel
theorem dL_row_4 : decode cL_row 4 = .ok (.iload_n 1, 1) := by decide +kernel
theorem dL_row_5 : decode cL_row 5 = .ok (.iload_n 2, 1) := by decide +kernel
theorem dL_row_6 : decode cL_row 6 = .ok (.iload_n 3, 1) := by decide +kernel
theorem dL_row_7 : decode cL_row 7 = .ok (.iload 4, 2) := by decide +kernel
theorem dL_row_9 : decode cL_row 9 = .ok (.iload 5, 2) := by decide +kernel
theorem dL_row_11 : decode cL_row 11 = .ok (.iload 6, 2) := by decide +kernel
theorem dL_row_13 : decode cL_row 13 = .ok (.invokevirtual 7, 3) := by decide +kernel
theorem dL_row_16 : decode cL_row 16 = .ok (.i2l, 1) := by decide +kernel
theorem dL_row_17 : decode cL_row 17 = .ok (.lastore, 1) := by decide +kernel
theorem dL_row_18 : decode cL_row 18 = .ok (.goto 15, 3) := by decide +kernel
theorem dL_row_21 : decode cL_row 21 = .ok (.astore 8, 2) := by decide +kernel
theorem dL_row_23 : decode cL_row 23 = .ok (.iconst 1, 1) := by decide +kernel
theorem dL_row_24 : decode cL_row 24 = .ok (.ireturn, 1) := by decide +kernel
theorem dL_row_25 : decode cL_row 25 = .ok (.astore 8, 2) := by decide +kernel
theorem dL_row_27 : decode cL_row 27 = .ok (.iconst 2, 1) := by decide +kernel
theorem dL_row_28 : decode cL_row 28 = .ok (.ireturn, 1) := by decide +kernel
theorem dL_row_29 : decode cL_row 29 = .ok (.astore 8, 2) := by decide +kernel
theorem dL_row_31 : decode cL_row 31 = .ok (.iconst 3, 1) := by decide +kernel
theorem dL_row_32 : decode cL_row 32 = .ok (.ireturn, 1) := by decide +kernel
theorem dL_row_33 : decode cL_row 33 = .ok (.iconst 0, 1) := by decide +kernel
theorem dL_row_34 : decode cL_row 34 = .ok (.ireturn, 1) := by decide +kernel
theorem dL_values_0 : decode cL_values 0 = .ok (.aload_n 0, 1) := by decide +kernel
theorem dL_values_1 : decode cL_values 1 = .ok (.iload_n 1, 1) := by decide +kernel
theorem dL_values_2 : decode cL_values 2 = .ok (.iload_n 2, 1) := by decide +kernel
theorem dL_values_3 : decode cL_values 3 = .ok (.iload_n 3, 1) := by decide +kernel
theorem dL_values_4 : decode cL_values 4 = .ok (.invokevirtual 19, 3) := by decide +kernel
theorem dL_values_7 : decode cL_values 7 = .ok (.goto 11, 3) := by decide +kernel
theorem dL_values_10 : decode cL_values 10 = .ok (.astore 4, 2) := by decide +kernel
theorem dL_values_12 : decode cL_values 12 = .ok (.iconst 1, 1) := by decide +kernel
theorem dL_values_13 : decode cL_values 13 = .ok (.ireturn, 1) := by decide +kernel
theorem dL_values_14 : decode cL_values 14 = .ok (.astore 4, 2) := by decide +kernel
theorem dL_values_16 : decode cL_values 16 = .ok (.iconst 2, 1) := by decide +kernel
theorem dL_values_17 : decode cL_values 17 = .ok (.ireturn, 1) := by decide +kernel
theorem dL_values_18 : decode cL_values 18 = .ok (.iconst 0, 1) := by decide +kernel
theorem dL_values_19 : decode cL_values 19 = .ok (.ireturn, 1) := by decide +kernel
theorem dL_define_0 : decode cL_define 0 = .ok (.aload_n 3, 1) := by decide +kernel
theorem dL_define_1 : decode cL_define 1 = .ok (.iconst 0, 1) := by decide +kernel
theorem dL_define_2 : decode cL_define 2 = .ok (.aload_n 0, 1) := by decide +kernel
theorem dL_define_3 : decode cL_define 3 = .ok (.iload_n 1, 1) := by decide +kernel
theorem dL_define_4 : decode cL_define 4 = .ok (.iload_n 2, 1) := by decide +kernel
theorem dL_define_5 : decode cL_define 5 = .ok (.invokevirtual 23, 3) := by decide +kernel
theorem dL_define_8 : decode cL_define 8 = .ok (.i2l, 1) := by decide +kernel
theorem dL_define_9 : decode cL_define 9 = .ok (.lastore, 1) := by decide +kernel
theorem dL_define_10 : decode cL_define 10 = .ok (.goto 11, 3) := by decide +kernel
theorem dL_define_13 : decode cL_define 13 = .ok (.astore 4, 2) := by decide +kernel
theorem dL_define_15 : decode cL_define 15 = .ok (.iconst 1, 1) := by decide +kernel
theorem dL_define_16 : decode cL_define 16 = .ok (.ireturn, 1) := by decide +kernel
theorem dL_define_17 : decode cL_define 17 = .ok (.astore 4, 2) := by decide +kernel
theorem dL_define_19 : decode cL_define 19 = .ok (.iconst 2, 1) := by decide +kernel
theorem dL_define_20 : decode cL_define 20 = .ok (.ireturn, 1) := by decide +kernel
theorem dL_define_21 : decode cL_define 21 = .ok (.iconst 0, 1) := by decide +kernel
theorem dL_define_22 : decode cL_define 22 = .ok (.ireturn, 1) := by decide +kernel
theorem dL_ask_0 : decode cL_ask 0 = .ok (.aload_n 0, 1) := by decide +kernel
theorem dL_ask_1 : decode cL_ask 1 = .ok (.iload_n 1, 1) := by decide +kernel
theorem dL_ask_2 : decode cL_ask 2 = .ok (.iload_n 2, 1) := by decide +kernel
theorem dL_ask_3 : decode cL_ask 3 = .ok (.iload_n 3, 1) := by decide +kernel
theorem dL_ask_4 : decode cL_ask 4 = .ok (.iload 4, 2) := by decide +kernel
theorem dL_ask_6 : decode cL_ask 6 = .ok (.invokevirtual 27, 3) := by decide +kernel
theorem dL_ask_9 : decode cL_ask 9 = .ok (.goto 11, 3) := by decide +kernel
theorem dL_ask_12 : decode cL_ask 12 = .ok (.astore 5, 2) := by decide +kernel
theorem dL_ask_14 : decode cL_ask 14 = .ok (.iconst 1, 1) := by decide +kernel
theorem dL_ask_15 : decode cL_ask 15 = .ok (.ireturn, 1) := by decide +kernel
theorem dL_ask_16 : decode cL_ask 16 = .ok (.astore 5, 2) := by decide +kernel
theorem dL_ask_18 : decode cL_ask 18 = .ok (.iconst 2, 1) := by decide +kernel
theorem dL_ask_19 : decode cL_ask 19 = .ok (.ireturn, 1) := by decide +kernel
theorem dL_ask_20 : decode cL_ask 20 = .ok (.iconst 0, 1) := by decide +kernel
theorem dL_ask_21 : decode cL_ask 21 = .ok (.ireturn, 1) := by decide +kernel
theorem dL_count_0 : decode cL_count 0 = .ok (.aload_n 2, 1) := by decide +kernel
theorem dL_count_1 : decode cL_count 1 = .ok (.iconst 0, 1) := by decide +kernel
theorem dL_count_2 : decode cL_count 2 = .ok (.aload_n 0, 1) := by decide +kernel
theorem dL_count_3 : decode cL_count 3 = .ok (.iload_n 1, 1) := by decide +kernel
theorem dL_count_4 : decode cL_count 4 = .ok (.invokevirtual 31, 3) := by decide +kernel
theorem dL_count_7 : decode cL_count 7 = .ok (.i2l, 1) := by decide +kernel
theorem dL_count_8 : decode cL_count 8 = .ok (.lastore, 1) := by decide +kernel
theorem dL_count_9 : decode cL_count 9 = .ok (.goto 6, 3) := by decide +kernel
theorem dL_count_12 : decode cL_count 12 = .ok (.astore_n 3, 1) := by decide +kernel
theorem dL_count_13 : decode cL_count 13 = .ok (.iconst 1, 1) := by decide +kernel
theorem dL_count_14 : decode cL_count 14 = .ok (.ireturn, 1) := by decide +kernel
theorem dL_count_15 : decode cL_count 15 = .ok (.iconst 0, 1) := by decide +kernel
theorem dL_count_16 : decode cL_count 16 = .ok (.ireturn, 1) := by decide +kernel
theorem dL_hour_0 : decode cL_hour 0 = .ok (.aload_n 2, 1) := by decide +kernel
theorem dL_hour_1 : decode cL_hour 1 = .ok (.iconst 0, 1) := by decide +kernel
theorem dL_hour_2 : decode cL_hour 2 = .ok (.aload_n 0, 1) := by decide +kernel
theorem dL_hour_3 : decode cL_hour 3 = .ok (.iload_n 1, 1) := by decide +kernel
theorem dL_hour_4 : decode cL_hour 4 = .ok (.invokevirtual 35, 3) := by decide +kernel
theorem dL_hour_7 : decode cL_hour 7 = .ok (.i2l, 1) := by decide +kernel
theorem dL_hour_8 : decode cL_hour 8 = .ok (.lastore, 1) := by decide +kernel
theorem dL_hour_9 : decode cL_hour 9 = .ok (.goto 6, 3) := by decide +kernel
theorem dL_hour_12 : decode cL_hour 12 = .ok (.astore_n 3, 1) := by decide +kernel
theorem dL_hour_13 : decode cL_hour 13 = .ok (.iconst 1, 1) := by decide +kernel
theorem dL_hour_14 : decode cL_hour 14 = .ok (.ireturn, 1) := by decide +kernel
theorem dL_hour_15 : decode cL_hour 15 = .ok (.iconst 0, 1) := by decide +kernel
theorem dL_hour_16 : decode cL_hour 16 = .ok (.ireturn, 1) := by decide +kernel
theorem dL_share_0 : decode cL_share 0 = .ok (.aload_n 2, 1) := by decide +kernel
theorem dL_share_1 : decode cL_share 1 = .ok (.iconst 0, 1) := by decide +kernel
theorem dL_share_2 : decode cL_share 2 = .ok (.aload_n 0, 1) := by decide +kernel
theorem dL_share_3 : decode cL_share 3 = .ok (.iload_n 1, 1) := by decide +kernel
theorem dL_share_4 : decode cL_share 4 = .ok (.invokevirtual 38, 3) := by decide +kernel
theorem dL_share_7 : decode cL_share 7 = .ok (.i2l, 1) := by decide +kernel
theorem dL_share_8 : decode cL_share 8 = .ok (.lastore, 1) := by decide +kernel
theorem dL_share_9 : decode cL_share 9 = .ok (.goto 9, 3) := by decide +kernel
theorem dL_share_12 : decode cL_share 12 = .ok (.astore_n 3, 1) := by decide +kernel
theorem dL_share_13 : decode cL_share 13 = .ok (.iconst 1, 1) := by decide +kernel
theorem dL_share_14 : decode cL_share 14 = .ok (.ireturn, 1) := by decide +kernel
theorem dL_share_15 : decode cL_share 15 = .ok (.astore_n 3, 1) := by decide +kernel
theorem dL_share_16 : decode cL_share 16 = .ok (.iconst 2, 1) := by decide +kernel
theorem dL_share_17 : decode cL_share 17 = .ok (.ireturn, 1) := by decide +kernel
theorem dL_share_18 : decode cL_share 18 = .ok (.iconst 0, 1) := by decide +kernel
theorem dL_share_19 : decode cL_share 19 = .ok (.ireturn, 1) := by decide +kernel
theorem dL_placed_0 : decode cL_placed 0 = .ok (.aload_n 2, 1) := by decide +kernel
theorem dL_placed_1 : decode cL_placed 1 = .ok (.iconst 0, 1) := by decide +kernel
theorem dL_placed_2 : decode cL_placed 2 = .ok (.aload_n 0, 1) := by decide +kernel
theorem dL_placed_3 : decode cL_placed 3 = .ok (.iload_n 1, 1) := by decide +kernel
theorem dL_placed_4 : decode cL_placed 4 = .ok (.invokevirtual 43, 3) := by decide +kernel
theorem dL_placed_7 : decode cL_placed 7 = .ok (.i2l, 1) := by decide +kernel
theorem dL_placed_8 : decode cL_placed 8 = .ok (.lastore, 1) := by decide +kernel
theorem dL_placed_9 : decode cL_placed 9 = .ok (.goto 6, 3) := by decide +kernel
theorem dL_placed_12 : decode cL_placed 12 = .ok (.astore_n 3, 1) := by decide +kernel
theorem dL_placed_13 : decode cL_placed 13 = .ok (.iconst 1, 1) := by decide +kernel
theorem dL_placed_14 : decode cL_placed 14 = .ok (.ireturn, 1) := by decide +kernel
theorem dL_placed_15 : decode cL_placed 15 = .ok (.iconst 0, 1) := by decide +kernel
theorem dL_placed_16 : decode cL_placed 16 = .ok (.ireturn, 1) := by decide +kernel
theorem dL_compare_0 : decode cL_compare 0 = .ok (.aload_n 3, 1) := by decide +kernel
theorem dL_compare_1 : decode cL_compare 1 = .ok (.iconst 0, 1) := by decide +kernel
theorem dL_compare_2 : decode cL_compare 2 = .ok (.aload_n 0, 1) := by decide +kernel
theorem dL_compare_3 : decode cL_compare 3 = .ok (.iload_n 1, 1) := by decide +kernel
theorem dL_compare_4 : decode cL_compare 4 = .ok (.iload_n 2, 1) := by decide +kernel
theorem dL_compare_5 : decode cL_compare 5 = .ok (.invokevirtual 46, 3) := by decide +kernel
theorem dL_compare_8 : decode cL_compare 8 = .ok (.i2l, 1) := by decide +kernel
theorem dL_compare_9 : decode cL_compare 9 = .ok (.lastore, 1) := by decide +kernel
theorem dL_compare_10 : decode cL_compare 10 = .ok (.goto 11, 3) := by decide +kernel
theorem dL_compare_13 : decode cL_compare 13 = .ok (.astore 4, 2) := by decide +kernel
theorem dL_compare_15 : decode cL_compare 15 = .ok (.iconst 1, 1) := by decide +kernel
theorem dL_compare_16 : decode cL_compare 16 = .ok (.ireturn, 1) := by decide +kernel
theorem dL_compare_17 : decode cL_compare 17 = .ok (.astore 4, 2) := by decide +kernel
theorem dL_compare_19 : decode cL_compare 19 = .ok (.iconst 2, 1) := by decide +kernel
theorem dL_compare_20 : decode cL_compare 20 = .ok (.ireturn, 1) := by decide +kernel
theorem dL_compare_21 : decode cL_compare 21 = .ok (.iconst 0, 1) := by decide +kernel
theorem dL_compare_22 : decode cL_compare 22 = .ok (.ireturn, 1) := by decide +kernel
theorem dL_trend_0 : decode cL_trend 0 = .ok (.aload 5, 2) := by decide +kernel
theorem dL_trend_2 : decode cL_trend 2 = .ok (.iconst 0, 1) := by decide +kernel
theorem dL_trend_3 : decode cL_trend 3 = .ok (.aload_n 0, 1) := by decide +kernel
theorem dL_trend_4 : decode cL_trend 4 = .ok (.iload_n 1, 1) := by decide +kernel
theorem dL_trend_5 : decode cL_trend 5 = .ok (.iload_n 2, 1) := by decide +kernel
theorem dL_trend_6 : decode cL_trend 6 = .ok (.iload_n 3, 1) := by decide +kernel
theorem dL_trend_7 : decode cL_trend 7 = .ok (.iload 4, 2) := by decide +kernel
theorem dL_trend_9 : decode cL_trend 9 = .ok (.invokevirtual 49, 3) := by decide +kernel
theorem dL_trend_12 : decode cL_trend 12 = .ok (.i2l, 1) := by decide +kernel
theorem dL_trend_13 : decode cL_trend 13 = .ok (.lastore, 1) := by decide +kernel
theorem dL_trend_14 : decode cL_trend 14 = .ok (.goto 11, 3) := by decide +kernel
theorem dL_trend_17 : decode cL_trend 17 = .ok (.astore 6, 2) := by decide +kernel
theorem dL_trend_19 : decode cL_trend 19 = .ok (.iconst 1, 1) := by decide +kernel
theorem dL_trend_20 : decode cL_trend 20 = .ok (.ireturn, 1) := by decide +kernel
theorem dL_trend_21 : decode cL_trend 21 = .ok (.astore 6, 2) := by decide +kernel
theorem dL_trend_23 : decode cL_trend 23 = .ok (.iconst 2, 1) := by decide +kernel
theorem dL_trend_24 : decode cL_trend 24 = .ok (.ireturn, 1) := by decide +kernel
theorem dL_trend_25 : decode cL_trend 25 = .ok (.iconst 0, 1) := by decide +kernel
theorem dL_trend_26 : decode cL_trend 26 = .ok (.ireturn, 1) := by decide +kernel
theorem dL_people_0 : decode cL_people 0 = .ok (.aload_n 0, 1) := by decide +kernel
theorem dL_people_1 : decode cL_people 1 = .ok (.iload_n 1, 1) := by decide +kernel
theorem dL_people_2 : decode cL_people 2 = .ok (.iload_n 2, 1) := by decide +kernel
theorem dL_people_3 : decode cL_people 3 = .ok (.invokevirtual 53, 3) := by decide +kernel
theorem dL_people_6 : decode cL_people 6 = .ok (.goto 9, 3) := by decide +kernel
theorem dL_people_9 : decode cL_people 9 = .ok (.astore_n 3, 1) := by decide +kernel
theorem dL_people_10 : decode cL_people 10 = .ok (.iconst 1, 1) := by decide +kernel
theorem dL_people_11 : decode cL_people 11 = .ok (.ireturn, 1) := by decide +kernel
theorem dL_people_12 : decode cL_people 12 = .ok (.astore_n 3, 1) := by decide +kernel
theorem dL_people_13 : decode cL_people 13 = .ok (.iconst 2, 1) := by decide +kernel
theorem dL_people_14 : decode cL_people 14 = .ok (.ireturn, 1) := by decide +kernel
theorem dL_people_15 : decode cL_people 15 = .ok (.iconst 0, 1) := by decide +kernel
theorem dL_people_16 : decode cL_people 16 = .ok (.ireturn, 1) := by decide +kernel
theorem dL_perThousand_0 : decode cL_perThousand 0 = .ok (.aload_n 2, 1) := by decide +kernel
theorem dL_perThousand_1 : decode cL_perThousand 1 = .ok (.iconst 0, 1) := by decide +kernel
theorem dL_perThousand_2 : decode cL_perThousand 2 = .ok (.aload_n 0, 1) := by decide +kernel
theorem dL_perThousand_3 : decode cL_perThousand 3 = .ok (.iload_n 1, 1) := by decide +kernel
theorem dL_perThousand_4 : decode cL_perThousand 4 = .ok (.invokevirtual 57, 3) := by decide +kernel
theorem dL_perThousand_7 : decode cL_perThousand 7 = .ok (.i2l, 1) := by decide +kernel
theorem dL_perThousand_8 : decode cL_perThousand 8 = .ok (.lastore, 1) := by decide +kernel
theorem dL_perThousand_9 : decode cL_perThousand 9 = .ok (.goto 9, 3) := by decide +kernel
theorem dL_perThousand_12 : decode cL_perThousand 12 = .ok (.astore_n 3, 1) := by decide +kernel
theorem dL_perThousand_13 : decode cL_perThousand 13 = .ok (.iconst 1, 1) := by decide +kernel
theorem dL_perThousand_14 : decode cL_perThousand 14 = .ok (.ireturn, 1) := by decide +kernel
theorem dL_perThousand_15 : decode cL_perThousand 15 = .ok (.astore_n 3, 1) := by decide +kernel
theorem dL_perThousand_16 : decode cL_perThousand 16 = .ok (.iconst 2, 1) := by decide +kernel
theorem dL_perThousand_17 : decode cL_perThousand 17 = .ok (.ireturn, 1) := by decide +kernel
theorem dL_perThousand_18 : decode cL_perThousand 18 = .ok (.iconst 0, 1) := by decide +kernel
theorem dL_perThousand_19 : decode cL_perThousand 19 = .ok (.ireturn, 1) := by decide +kernel
theorem dL_rank_0 : decode cL_rank 0 = .ok (.aload_n 2, 1) := by decide +kernel
theorem dL_rank_1 : decode cL_rank 1 = .ok (.iconst 0, 1) := by decide +kernel
theorem dL_rank_2 : decode cL_rank 2 = .ok (.aload_n 0, 1) := by decide +kernel
theorem dL_rank_3 : decode cL_rank 3 = .ok (.iload_n 1, 1) := by decide +kernel
theorem dL_rank_4 : decode cL_rank 4 = .ok (.invokevirtual 60, 3) := by decide +kernel
theorem dL_rank_7 : decode cL_rank 7 = .ok (.i2l, 1) := by decide +kernel
theorem dL_rank_8 : decode cL_rank 8 = .ok (.lastore, 1) := by decide +kernel
theorem dL_rank_9 : decode cL_rank 9 = .ok (.goto 6, 3) := by decide +kernel
theorem dL_rank_12 : decode cL_rank 12 = .ok (.astore_n 3, 1) := by decide +kernel
theorem dL_rank_13 : decode cL_rank 13 = .ok (.iconst 1, 1) := by decide +kernel
theorem dL_rank_14 : decode cL_rank 14 = .ok (.ireturn, 1) := by decide +kernel
theorem dL_rank_15 : decode cL_rank 15 = .ok (.iconst 0, 1) := by decide +kernel
theorem dL_rank_16 : decode cL_rank 16 = .ok (.ireturn, 1) := by decide +kernel
theorem dL_least_0 : decode cL_least 0 = .ok (.aload_n 0, 1) := by decide +kernel
theorem dL_least_1 : decode cL_least 1 = .ok (.iload_n 1, 1) := by decide +kernel
theorem dL_least_2 : decode cL_least 2 = .ok (.invokevirtual 63, 3) := by decide +kernel
theorem dL_least_5 : decode cL_least 5 = .ok (.goto 6, 3) := by decide +kernel
theorem dL_least_8 : decode cL_least 8 = .ok (.astore_n 2, 1) := by decide +kernel
theorem dL_least_9 : decode cL_least 9 = .ok (.iconst 1, 1) := by decide +kernel
theorem dL_least_10 : decode cL_least 10 = .ok (.ireturn, 1) := by decide +kernel
theorem dL_least_11 : decode cL_least 11 = .ok (.iconst 0, 1) := by decide +kernel
theorem dL_least_12 : decode cL_least 12 = .ok (.ireturn, 1) := by decide +kernel
theorem dL_shown_0 : decode cL_shown 0 = .ok (.aload_n 2, 1) := by decide +kernel
theorem dL_shown_1 : decode cL_shown 1 = .ok (.iconst 0, 1) := by decide +kernel
theorem dL_shown_2 : decode cL_shown 2 = .ok (.aload_n 0, 1) := by decide +kernel
theorem dL_shown_3 : decode cL_shown 3 = .ok (.iload_n 1, 1) := by decide +kernel
theorem dL_shown_4 : decode cL_shown 4 = .ok (.invokevirtual 67, 3) := by decide +kernel
theorem dL_shown_7 : decode cL_shown 7 = .ok (.i2l, 1) := by decide +kernel
theorem dL_shown_8 : decode cL_shown 8 = .ok (.lastore, 1) := by decide +kernel
theorem dL_shown_9 : decode cL_shown 9 = .ok (.goto 6, 3) := by decide +kernel
theorem dL_shown_12 : decode cL_shown 12 = .ok (.astore_n 3, 1) := by decide +kernel
theorem dL_shown_13 : decode cL_shown 13 = .ok (.iconst 1, 1) := by decide +kernel
theorem dL_shown_14 : decode cL_shown 14 = .ok (.ireturn, 1) := by decide +kernel
theorem dL_shown_15 : decode cL_shown 15 = .ok (.iconst 0, 1) := by decide +kernel
theorem dL_shown_16 : decode cL_shown 16 = .ok (.ireturn, 1) := by decide +kernel
theorem dL_work_0 : decode cL_work 0 = .ok (.aload_n 3, 1) := by decide +kernel
theorem dL_work_1 : decode cL_work 1 = .ok (.iconst 0, 1) := by decide +kernel
theorem dL_work_2 : decode cL_work 2 = .ok (.aload_n 0, 1) := by decide +kernel
theorem dL_work_3 : decode cL_work 3 = .ok (.iload_n 1, 1) := by decide +kernel
theorem dL_work_4 : decode cL_work 4 = .ok (.iload_n 2, 1) := by decide +kernel
theorem dL_work_5 : decode cL_work 5 = .ok (.invokevirtual 70, 3) := by decide +kernel
theorem dL_work_8 : decode cL_work 8 = .ok (.i2l, 1) := by decide +kernel
theorem dL_work_9 : decode cL_work 9 = .ok (.lastore, 1) := by decide +kernel
theorem dL_work_10 : decode cL_work 10 = .ok (.goto 7, 3) := by decide +kernel
theorem dL_work_13 : decode cL_work 13 = .ok (.astore 4, 2) := by decide +kernel
theorem dL_work_15 : decode cL_work 15 = .ok (.iconst 1, 1) := by decide +kernel
theorem dL_work_16 : decode cL_work 16 = .ok (.ireturn, 1) := by decide +kernel
theorem dL_work_17 : decode cL_work 17 = .ok (.iconst 0, 1) := by decide +kernel
theorem dL_work_18 : decode cL_work 18 = .ok (.ireturn, 1) := by decide +kernel
theorem dL_law_0 : decode cL_law 0 = .ok (.new 8, 3) := by decide +kernel
theorem dL_law_3 : decode cL_law 3 = .ok (.dup, 1) := by decide +kernel
theorem dL_law_4 : decode cL_law 4 = .ok (.invokespecial 73, 3) := by decide +kernel
theorem dL_law_7 : decode cL_law 7 = .ok (.astore_n 1, 1) := by decide +kernel
theorem dL_law_8 : decode cL_law 8 = .ok (.new 74, 3) := by decide +kernel
theorem dL_law_11 : decode cL_law 11 = .ok (.dup, 1) := by decide +kernel
theorem dL_law_12 : decode cL_law 12 = .ok (.invokespecial 76, 3) := by decide +kernel
theorem dL_law_15 : decode cL_law 15 = .ok (.astore_n 2, 1) := by decide +kernel
theorem dL_law_16 : decode cL_law 16 = .ok (.iconst 1, 1) := by decide +kernel
theorem dL_law_17 : decode cL_law 17 = .ok (.newarray .long, 2) := by decide +kernel
theorem dL_law_19 : decode cL_law 19 = .ok (.astore_n 3, 1) := by decide +kernel
theorem dL_law_20 : decode cL_law 20 = .ok (.iconst 0, 1) := by decide +kernel
theorem dL_law_21 : decode cL_law 21 = .ok (.istore 4, 2) := by decide +kernel
theorem dL_law_23 : decode cL_law 23 = .ok (.iload 4, 2) := by decide +kernel
theorem dL_law_25 : decode cL_law 25 = .ok (.aload_n 0, 1) := by decide +kernel
theorem dL_law_26 : decode cL_law 26 = .ok (.arraylength, 1) := by decide +kernel
theorem dL_law_27 : decode cL_law 27 = .ok (.bipush 7, 2) := by decide +kernel
theorem dL_law_29 : decode cL_law 29 = .ok (.isub, 1) := by decide +kernel
theorem dL_law_30 : decode cL_law 30 = .ok (.if_icmp .gt 1152, 3) := by decide +kernel
theorem dL_law_33 : decode cL_law 33 = .ok (.aload_n 0, 1) := by decide +kernel
theorem dL_law_34 : decode cL_law 34 = .ok (.iload 4, 2) := by decide +kernel
theorem dL_law_36 : decode cL_law 36 = .ok (.iaload, 1) := by decide +kernel
theorem dL_law_37 : decode cL_law 37 = .ok (.bipush 31, 2) := by decide +kernel
theorem dL_law_39 : decode cL_law 39 = .ok (.iand, 1) := by decide +kernel
theorem dL_law_40 : decode cL_law 40 = .ok (.tableswitch 1136 0 17 #[88, 206, 266, 334, 406, 462, 518, 574, 630, 643, 711, 803, 851, 907, 963, 999, 1055, 1068], 88) := by decide +kernel
theorem dL_law_128 : decode cL_law 128 = .ok (.aload_n 1, 1) := by decide +kernel
theorem dL_law_129 : decode cL_law 129 = .ok (.aload_n 0, 1) := by decide +kernel
theorem dL_law_130 : decode cL_law 130 = .ok (.iload 4, 2) := by decide +kernel
theorem dL_law_132 : decode cL_law 132 = .ok (.iconst 1, 1) := by decide +kernel
theorem dL_law_133 : decode cL_law 133 = .ok (.iadd, 1) := by decide +kernel
theorem dL_law_134 : decode cL_law 134 = .ok (.iaload, 1) := by decide +kernel
theorem dL_law_135 : decode cL_law 135 = .ok (.aload_n 0, 1) := by decide +kernel
theorem dL_law_136 : decode cL_law 136 = .ok (.iload 4, 2) := by decide +kernel
theorem dL_law_138 : decode cL_law 138 = .ok (.iconst 2, 1) := by decide +kernel
theorem dL_law_139 : decode cL_law 139 = .ok (.iadd, 1) := by decide +kernel
theorem dL_law_140 : decode cL_law 140 = .ok (.iaload, 1) := by decide +kernel
theorem dL_law_141 : decode cL_law 141 = .ok (.aload_n 0, 1) := by decide +kernel
theorem dL_law_142 : decode cL_law 142 = .ok (.iload 4, 2) := by decide +kernel
theorem dL_law_144 : decode cL_law 144 = .ok (.iconst 3, 1) := by decide +kernel
theorem dL_law_145 : decode cL_law 145 = .ok (.iadd, 1) := by decide +kernel
theorem dL_law_146 : decode cL_law 146 = .ok (.iaload, 1) := by decide +kernel
theorem dL_law_147 : decode cL_law 147 = .ok (.aload_n 0, 1) := by decide +kernel
theorem dL_law_148 : decode cL_law 148 = .ok (.iload 4, 2) := by decide +kernel
theorem dL_law_150 : decode cL_law 150 = .ok (.iconst 4, 1) := by decide +kernel
theorem dL_law_151 : decode cL_law 151 = .ok (.iadd, 1) := by decide +kernel
theorem dL_law_152 : decode cL_law 152 = .ok (.iaload, 1) := by decide +kernel
theorem dL_law_153 : decode cL_law 153 = .ok (.aload_n 0, 1) := by decide +kernel
theorem dL_law_154 : decode cL_law 154 = .ok (.iload 4, 2) := by decide +kernel
theorem dL_law_156 : decode cL_law 156 = .ok (.iconst 5, 1) := by decide +kernel
theorem dL_law_157 : decode cL_law 157 = .ok (.iadd, 1) := by decide +kernel
theorem dL_law_158 : decode cL_law 158 = .ok (.iaload, 1) := by decide +kernel
theorem dL_law_159 : decode cL_law 159 = .ok (.aload_n 0, 1) := by decide +kernel
theorem dL_law_160 : decode cL_law 160 = .ok (.iload 4, 2) := by decide +kernel
theorem dL_law_162 : decode cL_law 162 = .ok (.bipush 6, 2) := by decide +kernel
theorem dL_law_164 : decode cL_law 164 = .ok (.iadd, 1) := by decide +kernel
theorem dL_law_165 : decode cL_law 165 = .ok (.iaload, 1) := by decide +kernel
theorem dL_law_166 : decode cL_law 166 = .ok (.aload_n 3, 1) := by decide +kernel
theorem dL_law_167 : decode cL_law 167 = .ok (.invokestatic 77, 3) := by decide +kernel
theorem dL_law_170 : decode cL_law 170 = .ok (.istore 5, 2) := by decide +kernel
theorem dL_law_172 : decode cL_law 172 = .ok (.aload_n 2, 1) := by decide +kernel
theorem dL_law_173 : decode cL_law 173 = .ok (.aload_n 0, 1) := by decide +kernel
theorem dL_law_174 : decode cL_law 174 = .ok (.iload 4, 2) := by decide +kernel
theorem dL_law_176 : decode cL_law 176 = .ok (.iconst 1, 1) := by decide +kernel
theorem dL_law_177 : decode cL_law 177 = .ok (.iadd, 1) := by decide +kernel
theorem dL_law_178 : decode cL_law 178 = .ok (.iaload, 1) := by decide +kernel
theorem dL_law_179 : decode cL_law 179 = .ok (.aload_n 0, 1) := by decide +kernel
theorem dL_law_180 : decode cL_law 180 = .ok (.iload 4, 2) := by decide +kernel
theorem dL_law_182 : decode cL_law 182 = .ok (.iconst 2, 1) := by decide +kernel
theorem dL_law_183 : decode cL_law 183 = .ok (.iadd, 1) := by decide +kernel
theorem dL_law_184 : decode cL_law 184 = .ok (.iaload, 1) := by decide +kernel
theorem dL_law_185 : decode cL_law 185 = .ok (.aload_n 0, 1) := by decide +kernel
theorem dL_law_186 : decode cL_law 186 = .ok (.iload 4, 2) := by decide +kernel
theorem dL_law_188 : decode cL_law 188 = .ok (.iconst 3, 1) := by decide +kernel
theorem dL_law_189 : decode cL_law 189 = .ok (.iadd, 1) := by decide +kernel
theorem dL_law_190 : decode cL_law 190 = .ok (.iaload, 1) := by decide +kernel
theorem dL_law_191 : decode cL_law 191 = .ok (.aload_n 0, 1) := by decide +kernel
theorem dL_law_192 : decode cL_law 192 = .ok (.iload 4, 2) := by decide +kernel
theorem dL_law_194 : decode cL_law 194 = .ok (.iconst 4, 1) := by decide +kernel
theorem dL_law_195 : decode cL_law 195 = .ok (.iadd, 1) := by decide +kernel
theorem dL_law_196 : decode cL_law 196 = .ok (.iaload, 1) := by decide +kernel
theorem dL_law_197 : decode cL_law 197 = .ok (.aload_n 0, 1) := by decide +kernel
theorem dL_law_198 : decode cL_law 198 = .ok (.iload 4, 2) := by decide +kernel
theorem dL_law_200 : decode cL_law 200 = .ok (.iconst 5, 1) := by decide +kernel
theorem dL_law_201 : decode cL_law 201 = .ok (.iadd, 1) := by decide +kernel
theorem dL_law_202 : decode cL_law 202 = .ok (.iaload, 1) := by decide +kernel
theorem dL_law_203 : decode cL_law 203 = .ok (.aload_n 0, 1) := by decide +kernel
theorem dL_law_204 : decode cL_law 204 = .ok (.iload 4, 2) := by decide +kernel
theorem dL_law_206 : decode cL_law 206 = .ok (.bipush 6, 2) := by decide +kernel
theorem dL_law_208 : decode cL_law 208 = .ok (.iadd, 1) := by decide +kernel
theorem dL_law_209 : decode cL_law 209 = .ok (.iaload, 1) := by decide +kernel
theorem dL_law_210 : decode cL_law 210 = .ok (.invokevirtual 82, 3) := by decide +kernel
theorem dL_law_213 : decode cL_law 213 = .ok (.istore 6, 2) := by decide +kernel
theorem dL_law_215 : decode cL_law 215 = .ok (.aload_n 2, 1) := by decide +kernel
theorem dL_law_216 : decode cL_law 216 = .ok (.invokevirtual 83, 3) := by decide +kernel
theorem dL_law_219 : decode cL_law 219 = .ok (.iload 5, 2) := by decide +kernel
theorem dL_law_221 : decode cL_law 221 = .ok (.if_icmp .eq 5, 3) := by decide +kernel
theorem dL_law_224 : decode cL_law 224 = .ok (.iconst 0, 1) := by decide +kernel
theorem dL_law_225 : decode cL_law 225 = .ok (.ireturn, 1) := by decide +kernel
theorem dL_law_226 : decode cL_law 226 = .ok (.iload 5, 2) := by decide +kernel
theorem dL_law_228 : decode cL_law 228 = .ok (.ifCond .ne 15, 3) := by decide +kernel
theorem dL_law_231 : decode cL_law 231 = .ok (.aload_n 3, 1) := by decide +kernel
theorem dL_law_232 : decode cL_law 232 = .ok (.iconst 0, 1) := by decide +kernel
theorem dL_law_233 : decode cL_law 233 = .ok (.laload, 1) := by decide +kernel
theorem dL_law_234 : decode cL_law 234 = .ok (.iload 6, 2) := by decide +kernel
theorem dL_law_236 : decode cL_law 236 = .ok (.i2l, 1) := by decide +kernel
theorem dL_law_237 : decode cL_law 237 = .ok (.lcmp, 1) := by decide +kernel
theorem dL_law_238 : decode cL_law 238 = .ok (.ifCond .eq 5, 3) := by decide +kernel
theorem dL_law_241 : decode cL_law 241 = .ok (.iconst 0, 1) := by decide +kernel
theorem dL_law_242 : decode cL_law 242 = .ok (.ireturn, 1) := by decide +kernel
theorem dL_law_243 : decode cL_law 243 = .ok (.goto 933, 3) := by decide +kernel
theorem dL_law_246 : decode cL_law 246 = .ok (.aload_n 1, 1) := by decide +kernel
theorem dL_law_247 : decode cL_law 247 = .ok (.aload_n 0, 1) := by decide +kernel
theorem dL_law_248 : decode cL_law 248 = .ok (.iload 4, 2) := by decide +kernel
theorem dL_law_250 : decode cL_law 250 = .ok (.iconst 1, 1) := by decide +kernel
theorem dL_law_251 : decode cL_law 251 = .ok (.iadd, 1) := by decide +kernel
theorem dL_law_252 : decode cL_law 252 = .ok (.iaload, 1) := by decide +kernel
theorem dL_law_253 : decode cL_law 253 = .ok (.aload_n 0, 1) := by decide +kernel
theorem dL_law_254 : decode cL_law 254 = .ok (.iload 4, 2) := by decide +kernel
theorem dL_law_256 : decode cL_law 256 = .ok (.iconst 2, 1) := by decide +kernel
theorem dL_law_257 : decode cL_law 257 = .ok (.iadd, 1) := by decide +kernel
theorem dL_law_258 : decode cL_law 258 = .ok (.iaload, 1) := by decide +kernel
theorem dL_law_259 : decode cL_law 259 = .ok (.aload_n 0, 1) := by decide +kernel
theorem dL_law_260 : decode cL_law 260 = .ok (.iload 4, 2) := by decide +kernel
theorem dL_law_262 : decode cL_law 262 = .ok (.iconst 3, 1) := by decide +kernel
theorem dL_law_263 : decode cL_law 263 = .ok (.iadd, 1) := by decide +kernel
theorem dL_law_264 : decode cL_law 264 = .ok (.iaload, 1) := by decide +kernel
theorem dL_law_265 : decode cL_law 265 = .ok (.invokestatic 87, 3) := by decide +kernel
theorem dL_law_268 : decode cL_law 268 = .ok (.istore 5, 2) := by decide +kernel
theorem dL_law_270 : decode cL_law 270 = .ok (.aload_n 2, 1) := by decide +kernel
theorem dL_law_271 : decode cL_law 271 = .ok (.aload_n 0, 1) := by decide +kernel
theorem dL_law_272 : decode cL_law 272 = .ok (.iload 4, 2) := by decide +kernel
theorem dL_law_274 : decode cL_law 274 = .ok (.iconst 1, 1) := by decide +kernel
theorem dL_law_275 : decode cL_law 275 = .ok (.iadd, 1) := by decide +kernel
theorem dL_law_276 : decode cL_law 276 = .ok (.iaload, 1) := by decide +kernel
theorem dL_law_277 : decode cL_law 277 = .ok (.aload_n 0, 1) := by decide +kernel
theorem dL_law_278 : decode cL_law 278 = .ok (.iload 4, 2) := by decide +kernel
theorem dL_law_280 : decode cL_law 280 = .ok (.iconst 2, 1) := by decide +kernel
theorem dL_law_281 : decode cL_law 281 = .ok (.iadd, 1) := by decide +kernel
theorem dL_law_282 : decode cL_law 282 = .ok (.iaload, 1) := by decide +kernel
theorem dL_law_283 : decode cL_law 283 = .ok (.aload_n 0, 1) := by decide +kernel
theorem dL_law_284 : decode cL_law 284 = .ok (.iload 4, 2) := by decide +kernel
theorem dL_law_286 : decode cL_law 286 = .ok (.iconst 3, 1) := by decide +kernel
theorem dL_law_287 : decode cL_law 287 = .ok (.iadd, 1) := by decide +kernel
theorem dL_law_288 : decode cL_law 288 = .ok (.iaload, 1) := by decide +kernel
theorem dL_law_289 : decode cL_law 289 = .ok (.invokevirtual 90, 3) := by decide +kernel
theorem dL_law_292 : decode cL_law 292 = .ok (.aload_n 2, 1) := by decide +kernel
theorem dL_law_293 : decode cL_law 293 = .ok (.invokevirtual 83, 3) := by decide +kernel
theorem dL_law_296 : decode cL_law 296 = .ok (.iload 5, 2) := by decide +kernel
theorem dL_law_298 : decode cL_law 298 = .ok (.if_icmp .eq 5, 3) := by decide +kernel
theorem dL_law_301 : decode cL_law 301 = .ok (.iconst 0, 1) := by decide +kernel
theorem dL_law_302 : decode cL_law 302 = .ok (.ireturn, 1) := by decide +kernel
theorem dL_law_303 : decode cL_law 303 = .ok (.goto 873, 3) := by decide +kernel
theorem dL_law_306 : decode cL_law 306 = .ok (.aload_n 1, 1) := by decide +kernel
theorem dL_law_307 : decode cL_law 307 = .ok (.aload_n 0, 1) := by decide +kernel
theorem dL_law_308 : decode cL_law 308 = .ok (.iload 4, 2) := by decide +kernel
theorem dL_law_310 : decode cL_law 310 = .ok (.iconst 1, 1) := by decide +kernel
theorem dL_law_311 : decode cL_law 311 = .ok (.iadd, 1) := by decide +kernel
theorem dL_law_312 : decode cL_law 312 = .ok (.iaload, 1) := by decide +kernel
theorem dL_law_313 : decode cL_law 313 = .ok (.aload_n 0, 1) := by decide +kernel
theorem dL_law_314 : decode cL_law 314 = .ok (.iload 4, 2) := by decide +kernel
theorem dL_law_316 : decode cL_law 316 = .ok (.iconst 2, 1) := by decide +kernel
theorem dL_law_317 : decode cL_law 317 = .ok (.iadd, 1) := by decide +kernel
theorem dL_law_318 : decode cL_law 318 = .ok (.iaload, 1) := by decide +kernel
theorem dL_law_319 : decode cL_law 319 = .ok (.aload_n 3, 1) := by decide +kernel
theorem dL_law_320 : decode cL_law 320 = .ok (.invokestatic 91, 3) := by decide +kernel
theorem dL_law_323 : decode cL_law 323 = .ok (.istore 5, 2) := by decide +kernel
theorem dL_law_325 : decode cL_law 325 = .ok (.aload_n 2, 1) := by decide +kernel
theorem dL_law_326 : decode cL_law 326 = .ok (.aload_n 0, 1) := by decide +kernel
theorem dL_law_327 : decode cL_law 327 = .ok (.iload 4, 2) := by decide +kernel
theorem dL_law_329 : decode cL_law 329 = .ok (.iconst 1, 1) := by decide +kernel
theorem dL_law_330 : decode cL_law 330 = .ok (.iadd, 1) := by decide +kernel
theorem dL_law_331 : decode cL_law 331 = .ok (.iaload, 1) := by decide +kernel
theorem dL_law_332 : decode cL_law 332 = .ok (.aload_n 0, 1) := by decide +kernel
theorem dL_law_333 : decode cL_law 333 = .ok (.iload 4, 2) := by decide +kernel
theorem dL_law_335 : decode cL_law 335 = .ok (.iconst 2, 1) := by decide +kernel
theorem dL_law_336 : decode cL_law 336 = .ok (.iadd, 1) := by decide +kernel
theorem dL_law_337 : decode cL_law 337 = .ok (.iaload, 1) := by decide +kernel
theorem dL_law_338 : decode cL_law 338 = .ok (.invokevirtual 94, 3) := by decide +kernel
theorem dL_law_341 : decode cL_law 341 = .ok (.istore 6, 2) := by decide +kernel
theorem dL_law_343 : decode cL_law 343 = .ok (.aload_n 2, 1) := by decide +kernel
theorem dL_law_344 : decode cL_law 344 = .ok (.invokevirtual 83, 3) := by decide +kernel
theorem dL_law_347 : decode cL_law 347 = .ok (.iload 5, 2) := by decide +kernel
theorem dL_law_349 : decode cL_law 349 = .ok (.if_icmp .eq 5, 3) := by decide +kernel
theorem dL_law_352 : decode cL_law 352 = .ok (.iconst 0, 1) := by decide +kernel
theorem dL_law_353 : decode cL_law 353 = .ok (.ireturn, 1) := by decide +kernel
theorem dL_law_354 : decode cL_law 354 = .ok (.iload 5, 2) := by decide +kernel
theorem dL_law_356 : decode cL_law 356 = .ok (.ifCond .ne 15, 3) := by decide +kernel
theorem dL_law_359 : decode cL_law 359 = .ok (.aload_n 3, 1) := by decide +kernel
theorem dL_law_360 : decode cL_law 360 = .ok (.iconst 0, 1) := by decide +kernel
theorem dL_law_361 : decode cL_law 361 = .ok (.laload, 1) := by decide +kernel
theorem dL_law_362 : decode cL_law 362 = .ok (.iload 6, 2) := by decide +kernel
theorem dL_law_364 : decode cL_law 364 = .ok (.i2l, 1) := by decide +kernel
theorem dL_law_365 : decode cL_law 365 = .ok (.lcmp, 1) := by decide +kernel
theorem dL_law_366 : decode cL_law 366 = .ok (.ifCond .eq 5, 3) := by decide +kernel
theorem dL_law_369 : decode cL_law 369 = .ok (.iconst 0, 1) := by decide +kernel
theorem dL_law_370 : decode cL_law 370 = .ok (.ireturn, 1) := by decide +kernel
theorem dL_law_371 : decode cL_law 371 = .ok (.goto 805, 3) := by decide +kernel
theorem dL_law_374 : decode cL_law 374 = .ok (.aload_n 1, 1) := by decide +kernel
theorem dL_law_375 : decode cL_law 375 = .ok (.aload_n 0, 1) := by decide +kernel
theorem dL_law_376 : decode cL_law 376 = .ok (.iload 4, 2) := by decide +kernel
theorem dL_law_378 : decode cL_law 378 = .ok (.iconst 1, 1) := by decide +kernel
theorem dL_law_379 : decode cL_law 379 = .ok (.iadd, 1) := by decide +kernel
theorem dL_law_380 : decode cL_law 380 = .ok (.iaload, 1) := by decide +kernel
theorem dL_law_381 : decode cL_law 381 = .ok (.aload_n 0, 1) := by decide +kernel
theorem dL_law_382 : decode cL_law 382 = .ok (.iload 4, 2) := by decide +kernel
theorem dL_law_384 : decode cL_law 384 = .ok (.iconst 2, 1) := by decide +kernel
theorem dL_law_385 : decode cL_law 385 = .ok (.iadd, 1) := by decide +kernel
theorem dL_law_386 : decode cL_law 386 = .ok (.iaload, 1) := by decide +kernel
theorem dL_law_387 : decode cL_law 387 = .ok (.aload_n 0, 1) := by decide +kernel
theorem dL_law_388 : decode cL_law 388 = .ok (.iload 4, 2) := by decide +kernel
theorem dL_law_390 : decode cL_law 390 = .ok (.iconst 3, 1) := by decide +kernel
theorem dL_law_391 : decode cL_law 391 = .ok (.iadd, 1) := by decide +kernel
theorem dL_law_392 : decode cL_law 392 = .ok (.iaload, 1) := by decide +kernel
theorem dL_law_393 : decode cL_law 393 = .ok (.aload_n 0, 1) := by decide +kernel
theorem dL_law_394 : decode cL_law 394 = .ok (.iload 4, 2) := by decide +kernel
theorem dL_law_396 : decode cL_law 396 = .ok (.iconst 4, 1) := by decide +kernel
theorem dL_law_397 : decode cL_law 397 = .ok (.iadd, 1) := by decide +kernel
theorem dL_law_398 : decode cL_law 398 = .ok (.iaload, 1) := by decide +kernel
theorem dL_law_399 : decode cL_law 399 = .ok (.invokestatic 95, 3) := by decide +kernel
theorem dL_law_402 : decode cL_law 402 = .ok (.istore 5, 2) := by decide +kernel
theorem dL_law_404 : decode cL_law 404 = .ok (.aload_n 2, 1) := by decide +kernel
theorem dL_law_405 : decode cL_law 405 = .ok (.aload_n 0, 1) := by decide +kernel
theorem dL_law_406 : decode cL_law 406 = .ok (.iload 4, 2) := by decide +kernel
theorem dL_law_408 : decode cL_law 408 = .ok (.iconst 1, 1) := by decide +kernel
theorem dL_law_409 : decode cL_law 409 = .ok (.iadd, 1) := by decide +kernel
theorem dL_law_410 : decode cL_law 410 = .ok (.iaload, 1) := by decide +kernel
theorem dL_law_411 : decode cL_law 411 = .ok (.aload_n 0, 1) := by decide +kernel
theorem dL_law_412 : decode cL_law 412 = .ok (.iload 4, 2) := by decide +kernel
theorem dL_law_414 : decode cL_law 414 = .ok (.iconst 2, 1) := by decide +kernel
theorem dL_law_415 : decode cL_law 415 = .ok (.iadd, 1) := by decide +kernel
theorem dL_law_416 : decode cL_law 416 = .ok (.iaload, 1) := by decide +kernel
theorem dL_law_417 : decode cL_law 417 = .ok (.aload_n 0, 1) := by decide +kernel
theorem dL_law_418 : decode cL_law 418 = .ok (.iload 4, 2) := by decide +kernel
theorem dL_law_420 : decode cL_law 420 = .ok (.iconst 3, 1) := by decide +kernel
theorem dL_law_421 : decode cL_law 421 = .ok (.iadd, 1) := by decide +kernel
theorem dL_law_422 : decode cL_law 422 = .ok (.iaload, 1) := by decide +kernel
theorem dL_law_423 : decode cL_law 423 = .ok (.aload_n 0, 1) := by decide +kernel
theorem dL_law_424 : decode cL_law 424 = .ok (.iload 4, 2) := by decide +kernel
theorem dL_law_426 : decode cL_law 426 = .ok (.iconst 4, 1) := by decide +kernel
theorem dL_law_427 : decode cL_law 427 = .ok (.iadd, 1) := by decide +kernel
theorem dL_law_428 : decode cL_law 428 = .ok (.iaload, 1) := by decide +kernel
theorem dL_law_429 : decode cL_law 429 = .ok (.invokevirtual 98, 3) := by decide +kernel
theorem dL_law_432 : decode cL_law 432 = .ok (.aload_n 2, 1) := by decide +kernel
theorem dL_law_433 : decode cL_law 433 = .ok (.invokevirtual 83, 3) := by decide +kernel
theorem dL_law_436 : decode cL_law 436 = .ok (.iload 5, 2) := by decide +kernel
theorem dL_law_438 : decode cL_law 438 = .ok (.if_icmp .eq 5, 3) := by decide +kernel
theorem dL_law_441 : decode cL_law 441 = .ok (.iconst 0, 1) := by decide +kernel
theorem dL_law_442 : decode cL_law 442 = .ok (.ireturn, 1) := by decide +kernel
theorem dL_law_443 : decode cL_law 443 = .ok (.goto 733, 3) := by decide +kernel
theorem dL_law_446 : decode cL_law 446 = .ok (.aload_n 1, 1) := by decide +kernel
theorem dL_law_447 : decode cL_law 447 = .ok (.aload_n 0, 1) := by decide +kernel
theorem dL_law_448 : decode cL_law 448 = .ok (.iload 4, 2) := by decide +kernel
theorem dL_law_450 : decode cL_law 450 = .ok (.iconst 1, 1) := by decide +kernel
theorem dL_law_451 : decode cL_law 451 = .ok (.iadd, 1) := by decide +kernel
theorem dL_law_452 : decode cL_law 452 = .ok (.iaload, 1) := by decide +kernel
theorem dL_law_453 : decode cL_law 453 = .ok (.aload_n 3, 1) := by decide +kernel
theorem dL_law_454 : decode cL_law 454 = .ok (.invokestatic 99, 3) := by decide +kernel
theorem dL_law_457 : decode cL_law 457 = .ok (.istore 5, 2) := by decide +kernel
theorem dL_law_459 : decode cL_law 459 = .ok (.aload_n 2, 1) := by decide +kernel
theorem dL_law_460 : decode cL_law 460 = .ok (.aload_n 0, 1) := by decide +kernel
theorem dL_law_461 : decode cL_law 461 = .ok (.iload 4, 2) := by decide +kernel
theorem dL_law_463 : decode cL_law 463 = .ok (.iconst 1, 1) := by decide +kernel
theorem dL_law_464 : decode cL_law 464 = .ok (.iadd, 1) := by decide +kernel
theorem dL_law_465 : decode cL_law 465 = .ok (.iaload, 1) := by decide +kernel
theorem dL_law_466 : decode cL_law 466 = .ok (.invokevirtual 102, 3) := by decide +kernel
theorem dL_law_469 : decode cL_law 469 = .ok (.istore 6, 2) := by decide +kernel
theorem dL_law_471 : decode cL_law 471 = .ok (.aload_n 2, 1) := by decide +kernel
theorem dL_law_472 : decode cL_law 472 = .ok (.invokevirtual 83, 3) := by decide +kernel
theorem dL_law_475 : decode cL_law 475 = .ok (.iload 5, 2) := by decide +kernel
theorem dL_law_477 : decode cL_law 477 = .ok (.if_icmp .eq 5, 3) := by decide +kernel
theorem dL_law_480 : decode cL_law 480 = .ok (.iconst 0, 1) := by decide +kernel
theorem dL_law_481 : decode cL_law 481 = .ok (.ireturn, 1) := by decide +kernel
theorem dL_law_482 : decode cL_law 482 = .ok (.iload 5, 2) := by decide +kernel
theorem dL_law_484 : decode cL_law 484 = .ok (.ifCond .ne 15, 3) := by decide +kernel
theorem dL_law_487 : decode cL_law 487 = .ok (.aload_n 3, 1) := by decide +kernel
theorem dL_law_488 : decode cL_law 488 = .ok (.iconst 0, 1) := by decide +kernel
theorem dL_law_489 : decode cL_law 489 = .ok (.laload, 1) := by decide +kernel
theorem dL_law_490 : decode cL_law 490 = .ok (.iload 6, 2) := by decide +kernel
theorem dL_law_492 : decode cL_law 492 = .ok (.i2l, 1) := by decide +kernel
theorem dL_law_493 : decode cL_law 493 = .ok (.lcmp, 1) := by decide +kernel
theorem dL_law_494 : decode cL_law 494 = .ok (.ifCond .eq 5, 3) := by decide +kernel
theorem dL_law_497 : decode cL_law 497 = .ok (.iconst 0, 1) := by decide +kernel
theorem dL_law_498 : decode cL_law 498 = .ok (.ireturn, 1) := by decide +kernel
theorem dL_law_499 : decode cL_law 499 = .ok (.goto 677, 3) := by decide +kernel
theorem dL_law_502 : decode cL_law 502 = .ok (.aload_n 1, 1) := by decide +kernel
theorem dL_law_503 : decode cL_law 503 = .ok (.aload_n 0, 1) := by decide +kernel
theorem dL_law_504 : decode cL_law 504 = .ok (.iload 4, 2) := by decide +kernel
theorem dL_law_506 : decode cL_law 506 = .ok (.iconst 1, 1) := by decide +kernel
theorem dL_law_507 : decode cL_law 507 = .ok (.iadd, 1) := by decide +kernel
theorem dL_law_508 : decode cL_law 508 = .ok (.iaload, 1) := by decide +kernel
theorem dL_law_509 : decode cL_law 509 = .ok (.aload_n 3, 1) := by decide +kernel
theorem dL_law_510 : decode cL_law 510 = .ok (.invokestatic 103, 3) := by decide +kernel
theorem dL_law_513 : decode cL_law 513 = .ok (.istore 5, 2) := by decide +kernel
theorem dL_law_515 : decode cL_law 515 = .ok (.aload_n 2, 1) := by decide +kernel
theorem dL_law_516 : decode cL_law 516 = .ok (.aload_n 0, 1) := by decide +kernel
theorem dL_law_517 : decode cL_law 517 = .ok (.iload 4, 2) := by decide +kernel
theorem dL_law_519 : decode cL_law 519 = .ok (.iconst 1, 1) := by decide +kernel
theorem dL_law_520 : decode cL_law 520 = .ok (.iadd, 1) := by decide +kernel
theorem dL_law_521 : decode cL_law 521 = .ok (.iaload, 1) := by decide +kernel
theorem dL_law_522 : decode cL_law 522 = .ok (.invokevirtual 105, 3) := by decide +kernel
theorem dL_law_525 : decode cL_law 525 = .ok (.istore 6, 2) := by decide +kernel
theorem dL_law_527 : decode cL_law 527 = .ok (.aload_n 2, 1) := by decide +kernel
theorem dL_law_528 : decode cL_law 528 = .ok (.invokevirtual 83, 3) := by decide +kernel
theorem dL_law_531 : decode cL_law 531 = .ok (.iload 5, 2) := by decide +kernel
theorem dL_law_533 : decode cL_law 533 = .ok (.if_icmp .eq 5, 3) := by decide +kernel
theorem dL_law_536 : decode cL_law 536 = .ok (.iconst 0, 1) := by decide +kernel
theorem dL_law_537 : decode cL_law 537 = .ok (.ireturn, 1) := by decide +kernel
theorem dL_law_538 : decode cL_law 538 = .ok (.iload 5, 2) := by decide +kernel
theorem dL_law_540 : decode cL_law 540 = .ok (.ifCond .ne 15, 3) := by decide +kernel
theorem dL_law_543 : decode cL_law 543 = .ok (.aload_n 3, 1) := by decide +kernel
theorem dL_law_544 : decode cL_law 544 = .ok (.iconst 0, 1) := by decide +kernel
theorem dL_law_545 : decode cL_law 545 = .ok (.laload, 1) := by decide +kernel
theorem dL_law_546 : decode cL_law 546 = .ok (.iload 6, 2) := by decide +kernel
theorem dL_law_548 : decode cL_law 548 = .ok (.i2l, 1) := by decide +kernel
theorem dL_law_549 : decode cL_law 549 = .ok (.lcmp, 1) := by decide +kernel
theorem dL_law_550 : decode cL_law 550 = .ok (.ifCond .eq 5, 3) := by decide +kernel
theorem dL_law_553 : decode cL_law 553 = .ok (.iconst 0, 1) := by decide +kernel
theorem dL_law_554 : decode cL_law 554 = .ok (.ireturn, 1) := by decide +kernel
theorem dL_law_555 : decode cL_law 555 = .ok (.goto 621, 3) := by decide +kernel
theorem dL_law_558 : decode cL_law 558 = .ok (.aload_n 1, 1) := by decide +kernel
theorem dL_law_559 : decode cL_law 559 = .ok (.aload_n 0, 1) := by decide +kernel
theorem dL_law_560 : decode cL_law 560 = .ok (.iload 4, 2) := by decide +kernel
theorem dL_law_562 : decode cL_law 562 = .ok (.iconst 1, 1) := by decide +kernel
theorem dL_law_563 : decode cL_law 563 = .ok (.iadd, 1) := by decide +kernel
theorem dL_law_564 : decode cL_law 564 = .ok (.iaload, 1) := by decide +kernel
theorem dL_law_565 : decode cL_law 565 = .ok (.aload_n 3, 1) := by decide +kernel
theorem dL_law_566 : decode cL_law 566 = .ok (.invokestatic 106, 3) := by decide +kernel
theorem dL_law_569 : decode cL_law 569 = .ok (.istore 5, 2) := by decide +kernel
theorem dL_law_571 : decode cL_law 571 = .ok (.aload_n 2, 1) := by decide +kernel
theorem dL_law_572 : decode cL_law 572 = .ok (.aload_n 0, 1) := by decide +kernel
theorem dL_law_573 : decode cL_law 573 = .ok (.iload 4, 2) := by decide +kernel
theorem dL_law_575 : decode cL_law 575 = .ok (.iconst 1, 1) := by decide +kernel
theorem dL_law_576 : decode cL_law 576 = .ok (.iadd, 1) := by decide +kernel
theorem dL_law_577 : decode cL_law 577 = .ok (.iaload, 1) := by decide +kernel
theorem dL_law_578 : decode cL_law 578 = .ok (.invokevirtual 108, 3) := by decide +kernel
theorem dL_law_581 : decode cL_law 581 = .ok (.istore 6, 2) := by decide +kernel
theorem dL_law_583 : decode cL_law 583 = .ok (.aload_n 2, 1) := by decide +kernel
theorem dL_law_584 : decode cL_law 584 = .ok (.invokevirtual 83, 3) := by decide +kernel
theorem dL_law_587 : decode cL_law 587 = .ok (.iload 5, 2) := by decide +kernel
theorem dL_law_589 : decode cL_law 589 = .ok (.if_icmp .eq 5, 3) := by decide +kernel
theorem dL_law_592 : decode cL_law 592 = .ok (.iconst 0, 1) := by decide +kernel
theorem dL_law_593 : decode cL_law 593 = .ok (.ireturn, 1) := by decide +kernel
theorem dL_law_594 : decode cL_law 594 = .ok (.iload 5, 2) := by decide +kernel
theorem dL_law_596 : decode cL_law 596 = .ok (.ifCond .ne 15, 3) := by decide +kernel
theorem dL_law_599 : decode cL_law 599 = .ok (.aload_n 3, 1) := by decide +kernel
theorem dL_law_600 : decode cL_law 600 = .ok (.iconst 0, 1) := by decide +kernel
theorem dL_law_601 : decode cL_law 601 = .ok (.laload, 1) := by decide +kernel
theorem dL_law_602 : decode cL_law 602 = .ok (.iload 6, 2) := by decide +kernel
theorem dL_law_604 : decode cL_law 604 = .ok (.i2l, 1) := by decide +kernel
theorem dL_law_605 : decode cL_law 605 = .ok (.lcmp, 1) := by decide +kernel
theorem dL_law_606 : decode cL_law 606 = .ok (.ifCond .eq 5, 3) := by decide +kernel
theorem dL_law_609 : decode cL_law 609 = .ok (.iconst 0, 1) := by decide +kernel
theorem dL_law_610 : decode cL_law 610 = .ok (.ireturn, 1) := by decide +kernel
theorem dL_law_611 : decode cL_law 611 = .ok (.goto 565, 3) := by decide +kernel
theorem dL_law_614 : decode cL_law 614 = .ok (.aload_n 1, 1) := by decide +kernel
theorem dL_law_615 : decode cL_law 615 = .ok (.aload_n 0, 1) := by decide +kernel
theorem dL_law_616 : decode cL_law 616 = .ok (.iload 4, 2) := by decide +kernel
theorem dL_law_618 : decode cL_law 618 = .ok (.iconst 1, 1) := by decide +kernel
theorem dL_law_619 : decode cL_law 619 = .ok (.iadd, 1) := by decide +kernel
theorem dL_law_620 : decode cL_law 620 = .ok (.iaload, 1) := by decide +kernel
theorem dL_law_621 : decode cL_law 621 = .ok (.aload_n 3, 1) := by decide +kernel
theorem dL_law_622 : decode cL_law 622 = .ok (.invokestatic 109, 3) := by decide +kernel
theorem dL_law_625 : decode cL_law 625 = .ok (.istore 5, 2) := by decide +kernel
theorem dL_law_627 : decode cL_law 627 = .ok (.aload_n 2, 1) := by decide +kernel
theorem dL_law_628 : decode cL_law 628 = .ok (.aload_n 0, 1) := by decide +kernel
theorem dL_law_629 : decode cL_law 629 = .ok (.iload 4, 2) := by decide +kernel
theorem dL_law_631 : decode cL_law 631 = .ok (.iconst 1, 1) := by decide +kernel
theorem dL_law_632 : decode cL_law 632 = .ok (.iadd, 1) := by decide +kernel
theorem dL_law_633 : decode cL_law 633 = .ok (.iaload, 1) := by decide +kernel
theorem dL_law_634 : decode cL_law 634 = .ok (.invokevirtual 111, 3) := by decide +kernel
theorem dL_law_637 : decode cL_law 637 = .ok (.istore 6, 2) := by decide +kernel
theorem dL_law_639 : decode cL_law 639 = .ok (.aload_n 2, 1) := by decide +kernel
theorem dL_law_640 : decode cL_law 640 = .ok (.invokevirtual 83, 3) := by decide +kernel
theorem dL_law_643 : decode cL_law 643 = .ok (.iload 5, 2) := by decide +kernel
theorem dL_law_645 : decode cL_law 645 = .ok (.if_icmp .eq 5, 3) := by decide +kernel
theorem dL_law_648 : decode cL_law 648 = .ok (.iconst 0, 1) := by decide +kernel
theorem dL_law_649 : decode cL_law 649 = .ok (.ireturn, 1) := by decide +kernel
theorem dL_law_650 : decode cL_law 650 = .ok (.iload 5, 2) := by decide +kernel
theorem dL_law_652 : decode cL_law 652 = .ok (.ifCond .ne 15, 3) := by decide +kernel
theorem dL_law_655 : decode cL_law 655 = .ok (.aload_n 3, 1) := by decide +kernel
theorem dL_law_656 : decode cL_law 656 = .ok (.iconst 0, 1) := by decide +kernel
theorem dL_law_657 : decode cL_law 657 = .ok (.laload, 1) := by decide +kernel
theorem dL_law_658 : decode cL_law 658 = .ok (.iload 6, 2) := by decide +kernel
theorem dL_law_660 : decode cL_law 660 = .ok (.i2l, 1) := by decide +kernel
theorem dL_law_661 : decode cL_law 661 = .ok (.lcmp, 1) := by decide +kernel
theorem dL_law_662 : decode cL_law 662 = .ok (.ifCond .eq 5, 3) := by decide +kernel
theorem dL_law_665 : decode cL_law 665 = .ok (.iconst 0, 1) := by decide +kernel
theorem dL_law_666 : decode cL_law 666 = .ok (.ireturn, 1) := by decide +kernel
theorem dL_law_667 : decode cL_law 667 = .ok (.goto 509, 3) := by decide +kernel
theorem dL_law_670 : decode cL_law 670 = .ok (.aload_n 1, 1) := by decide +kernel
theorem dL_law_671 : decode cL_law 671 = .ok (.invokevirtual 112, 3) := by decide +kernel
theorem dL_law_674 : decode cL_law 674 = .ok (.aload_n 2, 1) := by decide +kernel
theorem dL_law_675 : decode cL_law 675 = .ok (.invokevirtual 115, 3) := by decide +kernel
theorem dL_law_678 : decode cL_law 678 = .ok (.if_icmp .eq 498, 3) := by decide +kernel
theorem dL_law_681 : decode cL_law 681 = .ok (.iconst 0, 1) := by decide +kernel
theorem dL_law_682 : decode cL_law 682 = .ok (.ireturn, 1) := by decide +kernel
theorem dL_law_683 : decode cL_law 683 = .ok (.aload_n 1, 1) := by decide +kernel
theorem dL_law_684 : decode cL_law 684 = .ok (.aload_n 0, 1) := by decide +kernel
theorem dL_law_685 : decode cL_law 685 = .ok (.iload 4, 2) := by decide +kernel
theorem dL_law_687 : decode cL_law 687 = .ok (.iconst 1, 1) := by decide +kernel
theorem dL_law_688 : decode cL_law 688 = .ok (.iadd, 1) := by decide +kernel
theorem dL_law_689 : decode cL_law 689 = .ok (.iaload, 1) := by decide +kernel
theorem dL_law_690 : decode cL_law 690 = .ok (.aload_n 0, 1) := by decide +kernel
theorem dL_law_691 : decode cL_law 691 = .ok (.iload 4, 2) := by decide +kernel
theorem dL_law_693 : decode cL_law 693 = .ok (.iconst 2, 1) := by decide +kernel
theorem dL_law_694 : decode cL_law 694 = .ok (.iadd, 1) := by decide +kernel
theorem dL_law_695 : decode cL_law 695 = .ok (.iaload, 1) := by decide +kernel
theorem dL_law_696 : decode cL_law 696 = .ok (.aload_n 3, 1) := by decide +kernel
theorem dL_law_697 : decode cL_law 697 = .ok (.invokestatic 116, 3) := by decide +kernel
theorem dL_law_700 : decode cL_law 700 = .ok (.istore 5, 2) := by decide +kernel
theorem dL_law_702 : decode cL_law 702 = .ok (.aload_n 2, 1) := by decide +kernel
theorem dL_law_703 : decode cL_law 703 = .ok (.aload_n 0, 1) := by decide +kernel
theorem dL_law_704 : decode cL_law 704 = .ok (.iload 4, 2) := by decide +kernel
theorem dL_law_706 : decode cL_law 706 = .ok (.iconst 1, 1) := by decide +kernel
theorem dL_law_707 : decode cL_law 707 = .ok (.iadd, 1) := by decide +kernel
theorem dL_law_708 : decode cL_law 708 = .ok (.iaload, 1) := by decide +kernel
theorem dL_law_709 : decode cL_law 709 = .ok (.aload_n 0, 1) := by decide +kernel
theorem dL_law_710 : decode cL_law 710 = .ok (.iload 4, 2) := by decide +kernel
theorem dL_law_712 : decode cL_law 712 = .ok (.iconst 2, 1) := by decide +kernel
theorem dL_law_713 : decode cL_law 713 = .ok (.iadd, 1) := by decide +kernel
theorem dL_law_714 : decode cL_law 714 = .ok (.iaload, 1) := by decide +kernel
theorem dL_law_715 : decode cL_law 715 = .ok (.invokevirtual 118, 3) := by decide +kernel
theorem dL_law_718 : decode cL_law 718 = .ok (.istore 6, 2) := by decide +kernel
theorem dL_law_720 : decode cL_law 720 = .ok (.aload_n 2, 1) := by decide +kernel
theorem dL_law_721 : decode cL_law 721 = .ok (.invokevirtual 83, 3) := by decide +kernel
theorem dL_law_724 : decode cL_law 724 = .ok (.iload 5, 2) := by decide +kernel
theorem dL_law_726 : decode cL_law 726 = .ok (.if_icmp .eq 5, 3) := by decide +kernel
theorem dL_law_729 : decode cL_law 729 = .ok (.iconst 0, 1) := by decide +kernel
theorem dL_law_730 : decode cL_law 730 = .ok (.ireturn, 1) := by decide +kernel
theorem dL_law_731 : decode cL_law 731 = .ok (.iload 5, 2) := by decide +kernel
theorem dL_law_733 : decode cL_law 733 = .ok (.ifCond .ne 15, 3) := by decide +kernel
theorem dL_law_736 : decode cL_law 736 = .ok (.aload_n 3, 1) := by decide +kernel
theorem dL_law_737 : decode cL_law 737 = .ok (.iconst 0, 1) := by decide +kernel
theorem dL_law_738 : decode cL_law 738 = .ok (.laload, 1) := by decide +kernel
theorem dL_law_739 : decode cL_law 739 = .ok (.iload 6, 2) := by decide +kernel
theorem dL_law_741 : decode cL_law 741 = .ok (.i2l, 1) := by decide +kernel
theorem dL_law_742 : decode cL_law 742 = .ok (.lcmp, 1) := by decide +kernel
theorem dL_law_743 : decode cL_law 743 = .ok (.ifCond .eq 5, 3) := by decide +kernel
theorem dL_law_746 : decode cL_law 746 = .ok (.iconst 0, 1) := by decide +kernel
theorem dL_law_747 : decode cL_law 747 = .ok (.ireturn, 1) := by decide +kernel
theorem dL_law_748 : decode cL_law 748 = .ok (.goto 428, 3) := by decide +kernel
theorem dL_law_751 : decode cL_law 751 = .ok (.aload_n 1, 1) := by decide +kernel
theorem dL_law_752 : decode cL_law 752 = .ok (.aload_n 0, 1) := by decide +kernel
theorem dL_law_753 : decode cL_law 753 = .ok (.iload 4, 2) := by decide +kernel
theorem dL_law_755 : decode cL_law 755 = .ok (.iconst 1, 1) := by decide +kernel
theorem dL_law_756 : decode cL_law 756 = .ok (.iadd, 1) := by decide +kernel
theorem dL_law_757 : decode cL_law 757 = .ok (.iaload, 1) := by decide +kernel
theorem dL_law_758 : decode cL_law 758 = .ok (.aload_n 0, 1) := by decide +kernel
theorem dL_law_759 : decode cL_law 759 = .ok (.iload 4, 2) := by decide +kernel
theorem dL_law_761 : decode cL_law 761 = .ok (.iconst 2, 1) := by decide +kernel
theorem dL_law_762 : decode cL_law 762 = .ok (.iadd, 1) := by decide +kernel
theorem dL_law_763 : decode cL_law 763 = .ok (.iaload, 1) := by decide +kernel
theorem dL_law_764 : decode cL_law 764 = .ok (.aload_n 0, 1) := by decide +kernel
theorem dL_law_765 : decode cL_law 765 = .ok (.iload 4, 2) := by decide +kernel
theorem dL_law_767 : decode cL_law 767 = .ok (.iconst 3, 1) := by decide +kernel
theorem dL_law_768 : decode cL_law 768 = .ok (.iadd, 1) := by decide +kernel
theorem dL_law_769 : decode cL_law 769 = .ok (.iaload, 1) := by decide +kernel
theorem dL_law_770 : decode cL_law 770 = .ok (.aload_n 0, 1) := by decide +kernel
theorem dL_law_771 : decode cL_law 771 = .ok (.iload 4, 2) := by decide +kernel
theorem dL_law_773 : decode cL_law 773 = .ok (.iconst 4, 1) := by decide +kernel
theorem dL_law_774 : decode cL_law 774 = .ok (.iadd, 1) := by decide +kernel
theorem dL_law_775 : decode cL_law 775 = .ok (.iaload, 1) := by decide +kernel
theorem dL_law_776 : decode cL_law 776 = .ok (.aload_n 3, 1) := by decide +kernel
theorem dL_law_777 : decode cL_law 777 = .ok (.invokestatic 119, 3) := by decide +kernel
theorem dL_law_780 : decode cL_law 780 = .ok (.istore 5, 2) := by decide +kernel
theorem dL_law_782 : decode cL_law 782 = .ok (.aload_n 2, 1) := by decide +kernel
theorem dL_law_783 : decode cL_law 783 = .ok (.aload_n 0, 1) := by decide +kernel
theorem dL_law_784 : decode cL_law 784 = .ok (.iload 4, 2) := by decide +kernel
theorem dL_law_786 : decode cL_law 786 = .ok (.iconst 1, 1) := by decide +kernel
theorem dL_law_787 : decode cL_law 787 = .ok (.iadd, 1) := by decide +kernel
theorem dL_law_788 : decode cL_law 788 = .ok (.iaload, 1) := by decide +kernel
theorem dL_law_789 : decode cL_law 789 = .ok (.aload_n 0, 1) := by decide +kernel
theorem dL_law_790 : decode cL_law 790 = .ok (.iload 4, 2) := by decide +kernel
theorem dL_law_792 : decode cL_law 792 = .ok (.iconst 2, 1) := by decide +kernel
theorem dL_law_793 : decode cL_law 793 = .ok (.iadd, 1) := by decide +kernel
theorem dL_law_794 : decode cL_law 794 = .ok (.iaload, 1) := by decide +kernel
theorem dL_law_795 : decode cL_law 795 = .ok (.aload_n 0, 1) := by decide +kernel
theorem dL_law_796 : decode cL_law 796 = .ok (.iload 4, 2) := by decide +kernel
theorem dL_law_798 : decode cL_law 798 = .ok (.iconst 3, 1) := by decide +kernel
theorem dL_law_799 : decode cL_law 799 = .ok (.iadd, 1) := by decide +kernel
theorem dL_law_800 : decode cL_law 800 = .ok (.iaload, 1) := by decide +kernel
theorem dL_law_801 : decode cL_law 801 = .ok (.aload_n 0, 1) := by decide +kernel
theorem dL_law_802 : decode cL_law 802 = .ok (.iload 4, 2) := by decide +kernel
theorem dL_law_804 : decode cL_law 804 = .ok (.iconst 4, 1) := by decide +kernel
theorem dL_law_805 : decode cL_law 805 = .ok (.iadd, 1) := by decide +kernel
theorem dL_law_806 : decode cL_law 806 = .ok (.iaload, 1) := by decide +kernel
theorem dL_law_807 : decode cL_law 807 = .ok (.invokevirtual 122, 3) := by decide +kernel
theorem dL_law_810 : decode cL_law 810 = .ok (.istore 6, 2) := by decide +kernel
theorem dL_law_812 : decode cL_law 812 = .ok (.aload_n 2, 1) := by decide +kernel
theorem dL_law_813 : decode cL_law 813 = .ok (.invokevirtual 83, 3) := by decide +kernel
theorem dL_law_816 : decode cL_law 816 = .ok (.iload 5, 2) := by decide +kernel
theorem dL_law_818 : decode cL_law 818 = .ok (.if_icmp .eq 5, 3) := by decide +kernel
theorem dL_law_821 : decode cL_law 821 = .ok (.iconst 0, 1) := by decide +kernel
theorem dL_law_822 : decode cL_law 822 = .ok (.ireturn, 1) := by decide +kernel
theorem dL_law_823 : decode cL_law 823 = .ok (.iload 5, 2) := by decide +kernel
theorem dL_law_825 : decode cL_law 825 = .ok (.ifCond .ne 15, 3) := by decide +kernel
theorem dL_law_828 : decode cL_law 828 = .ok (.aload_n 3, 1) := by decide +kernel
theorem dL_law_829 : decode cL_law 829 = .ok (.iconst 0, 1) := by decide +kernel
theorem dL_law_830 : decode cL_law 830 = .ok (.laload, 1) := by decide +kernel
theorem dL_law_831 : decode cL_law 831 = .ok (.iload 6, 2) := by decide +kernel
theorem dL_law_833 : decode cL_law 833 = .ok (.i2l, 1) := by decide +kernel
theorem dL_law_834 : decode cL_law 834 = .ok (.lcmp, 1) := by decide +kernel
theorem dL_law_835 : decode cL_law 835 = .ok (.ifCond .eq 5, 3) := by decide +kernel
theorem dL_law_838 : decode cL_law 838 = .ok (.iconst 0, 1) := by decide +kernel
theorem dL_law_839 : decode cL_law 839 = .ok (.ireturn, 1) := by decide +kernel
theorem dL_law_840 : decode cL_law 840 = .ok (.goto 336, 3) := by decide +kernel
theorem dL_law_843 : decode cL_law 843 = .ok (.aload_n 1, 1) := by decide +kernel
theorem dL_law_844 : decode cL_law 844 = .ok (.aload_n 0, 1) := by decide +kernel
theorem dL_law_845 : decode cL_law 845 = .ok (.iload 4, 2) := by decide +kernel
theorem dL_law_847 : decode cL_law 847 = .ok (.iconst 1, 1) := by decide +kernel
theorem dL_law_848 : decode cL_law 848 = .ok (.iadd, 1) := by decide +kernel
theorem dL_law_849 : decode cL_law 849 = .ok (.iaload, 1) := by decide +kernel
theorem dL_law_850 : decode cL_law 850 = .ok (.aload_n 0, 1) := by decide +kernel
theorem dL_law_851 : decode cL_law 851 = .ok (.iload 4, 2) := by decide +kernel
theorem dL_law_853 : decode cL_law 853 = .ok (.iconst 2, 1) := by decide +kernel
theorem dL_law_854 : decode cL_law 854 = .ok (.iadd, 1) := by decide +kernel
theorem dL_law_855 : decode cL_law 855 = .ok (.iaload, 1) := by decide +kernel
theorem dL_law_856 : decode cL_law 856 = .ok (.invokestatic 123, 3) := by decide +kernel
theorem dL_law_859 : decode cL_law 859 = .ok (.istore 5, 2) := by decide +kernel
theorem dL_law_861 : decode cL_law 861 = .ok (.aload_n 2, 1) := by decide +kernel
theorem dL_law_862 : decode cL_law 862 = .ok (.aload_n 0, 1) := by decide +kernel
theorem dL_law_863 : decode cL_law 863 = .ok (.iload 4, 2) := by decide +kernel
theorem dL_law_865 : decode cL_law 865 = .ok (.iconst 1, 1) := by decide +kernel
theorem dL_law_866 : decode cL_law 866 = .ok (.iadd, 1) := by decide +kernel
theorem dL_law_867 : decode cL_law 867 = .ok (.iaload, 1) := by decide +kernel
theorem dL_law_868 : decode cL_law 868 = .ok (.aload_n 0, 1) := by decide +kernel
theorem dL_law_869 : decode cL_law 869 = .ok (.iload 4, 2) := by decide +kernel
theorem dL_law_871 : decode cL_law 871 = .ok (.iconst 2, 1) := by decide +kernel
theorem dL_law_872 : decode cL_law 872 = .ok (.iadd, 1) := by decide +kernel
theorem dL_law_873 : decode cL_law 873 = .ok (.iaload, 1) := by decide +kernel
theorem dL_law_874 : decode cL_law 874 = .ok (.invokevirtual 126, 3) := by decide +kernel
theorem dL_law_877 : decode cL_law 877 = .ok (.aload_n 2, 1) := by decide +kernel
theorem dL_law_878 : decode cL_law 878 = .ok (.invokevirtual 83, 3) := by decide +kernel
theorem dL_law_881 : decode cL_law 881 = .ok (.iload 5, 2) := by decide +kernel
theorem dL_law_883 : decode cL_law 883 = .ok (.if_icmp .eq 5, 3) := by decide +kernel
theorem dL_law_886 : decode cL_law 886 = .ok (.iconst 0, 1) := by decide +kernel
theorem dL_law_887 : decode cL_law 887 = .ok (.ireturn, 1) := by decide +kernel
theorem dL_law_888 : decode cL_law 888 = .ok (.goto 288, 3) := by decide +kernel
theorem dL_law_891 : decode cL_law 891 = .ok (.aload_n 1, 1) := by decide +kernel
theorem dL_law_892 : decode cL_law 892 = .ok (.aload_n 0, 1) := by decide +kernel
theorem dL_law_893 : decode cL_law 893 = .ok (.iload 4, 2) := by decide +kernel
theorem dL_law_895 : decode cL_law 895 = .ok (.iconst 1, 1) := by decide +kernel
theorem dL_law_896 : decode cL_law 896 = .ok (.iadd, 1) := by decide +kernel
theorem dL_law_897 : decode cL_law 897 = .ok (.iaload, 1) := by decide +kernel
theorem dL_law_898 : decode cL_law 898 = .ok (.aload_n 3, 1) := by decide +kernel
theorem dL_law_899 : decode cL_law 899 = .ok (.invokestatic 127, 3) := by decide +kernel
theorem dL_law_902 : decode cL_law 902 = .ok (.istore 5, 2) := by decide +kernel
theorem dL_law_904 : decode cL_law 904 = .ok (.aload_n 2, 1) := by decide +kernel
theorem dL_law_905 : decode cL_law 905 = .ok (.aload_n 0, 1) := by decide +kernel
theorem dL_law_906 : decode cL_law 906 = .ok (.iload 4, 2) := by decide +kernel
theorem dL_law_908 : decode cL_law 908 = .ok (.iconst 1, 1) := by decide +kernel
theorem dL_law_909 : decode cL_law 909 = .ok (.iadd, 1) := by decide +kernel
theorem dL_law_910 : decode cL_law 910 = .ok (.iaload, 1) := by decide +kernel
theorem dL_law_911 : decode cL_law 911 = .ok (.invokevirtual 129, 3) := by decide +kernel
theorem dL_law_914 : decode cL_law 914 = .ok (.istore 6, 2) := by decide +kernel
theorem dL_law_916 : decode cL_law 916 = .ok (.aload_n 2, 1) := by decide +kernel
theorem dL_law_917 : decode cL_law 917 = .ok (.invokevirtual 83, 3) := by decide +kernel
theorem dL_law_920 : decode cL_law 920 = .ok (.iload 5, 2) := by decide +kernel
theorem dL_law_922 : decode cL_law 922 = .ok (.if_icmp .eq 5, 3) := by decide +kernel
theorem dL_law_925 : decode cL_law 925 = .ok (.iconst 0, 1) := by decide +kernel
theorem dL_law_926 : decode cL_law 926 = .ok (.ireturn, 1) := by decide +kernel
theorem dL_law_927 : decode cL_law 927 = .ok (.iload 5, 2) := by decide +kernel
theorem dL_law_929 : decode cL_law 929 = .ok (.ifCond .ne 15, 3) := by decide +kernel
theorem dL_law_932 : decode cL_law 932 = .ok (.aload_n 3, 1) := by decide +kernel
theorem dL_law_933 : decode cL_law 933 = .ok (.iconst 0, 1) := by decide +kernel
theorem dL_law_934 : decode cL_law 934 = .ok (.laload, 1) := by decide +kernel
theorem dL_law_935 : decode cL_law 935 = .ok (.iload 6, 2) := by decide +kernel
theorem dL_law_937 : decode cL_law 937 = .ok (.i2l, 1) := by decide +kernel
theorem dL_law_938 : decode cL_law 938 = .ok (.lcmp, 1) := by decide +kernel
theorem dL_law_939 : decode cL_law 939 = .ok (.ifCond .eq 5, 3) := by decide +kernel
theorem dL_law_942 : decode cL_law 942 = .ok (.iconst 0, 1) := by decide +kernel
theorem dL_law_943 : decode cL_law 943 = .ok (.ireturn, 1) := by decide +kernel
theorem dL_law_944 : decode cL_law 944 = .ok (.goto 232, 3) := by decide +kernel
theorem dL_law_947 : decode cL_law 947 = .ok (.aload_n 1, 1) := by decide +kernel
theorem dL_law_948 : decode cL_law 948 = .ok (.aload_n 0, 1) := by decide +kernel
theorem dL_law_949 : decode cL_law 949 = .ok (.iload 4, 2) := by decide +kernel
theorem dL_law_951 : decode cL_law 951 = .ok (.iconst 1, 1) := by decide +kernel
theorem dL_law_952 : decode cL_law 952 = .ok (.iadd, 1) := by decide +kernel
theorem dL_law_953 : decode cL_law 953 = .ok (.iaload, 1) := by decide +kernel
theorem dL_law_954 : decode cL_law 954 = .ok (.aload_n 3, 1) := by decide +kernel
theorem dL_law_955 : decode cL_law 955 = .ok (.invokestatic 130, 3) := by decide +kernel
theorem dL_law_958 : decode cL_law 958 = .ok (.istore 5, 2) := by decide +kernel
theorem dL_law_960 : decode cL_law 960 = .ok (.aload_n 2, 1) := by decide +kernel
theorem dL_law_961 : decode cL_law 961 = .ok (.aload_n 0, 1) := by decide +kernel
theorem dL_law_962 : decode cL_law 962 = .ok (.iload 4, 2) := by decide +kernel
theorem dL_law_964 : decode cL_law 964 = .ok (.iconst 1, 1) := by decide +kernel
theorem dL_law_965 : decode cL_law 965 = .ok (.iadd, 1) := by decide +kernel
theorem dL_law_966 : decode cL_law 966 = .ok (.iaload, 1) := by decide +kernel
theorem dL_law_967 : decode cL_law 967 = .ok (.invokevirtual 132, 3) := by decide +kernel
theorem dL_law_970 : decode cL_law 970 = .ok (.istore 6, 2) := by decide +kernel
theorem dL_law_972 : decode cL_law 972 = .ok (.aload_n 2, 1) := by decide +kernel
theorem dL_law_973 : decode cL_law 973 = .ok (.invokevirtual 83, 3) := by decide +kernel
theorem dL_law_976 : decode cL_law 976 = .ok (.iload 5, 2) := by decide +kernel
theorem dL_law_978 : decode cL_law 978 = .ok (.if_icmp .eq 5, 3) := by decide +kernel
theorem dL_law_981 : decode cL_law 981 = .ok (.iconst 0, 1) := by decide +kernel
theorem dL_law_982 : decode cL_law 982 = .ok (.ireturn, 1) := by decide +kernel
theorem dL_law_983 : decode cL_law 983 = .ok (.iload 5, 2) := by decide +kernel
theorem dL_law_985 : decode cL_law 985 = .ok (.ifCond .ne 15, 3) := by decide +kernel
theorem dL_law_988 : decode cL_law 988 = .ok (.aload_n 3, 1) := by decide +kernel
theorem dL_law_989 : decode cL_law 989 = .ok (.iconst 0, 1) := by decide +kernel
theorem dL_law_990 : decode cL_law 990 = .ok (.laload, 1) := by decide +kernel
theorem dL_law_991 : decode cL_law 991 = .ok (.iload 6, 2) := by decide +kernel
theorem dL_law_993 : decode cL_law 993 = .ok (.i2l, 1) := by decide +kernel
theorem dL_law_994 : decode cL_law 994 = .ok (.lcmp, 1) := by decide +kernel
theorem dL_law_995 : decode cL_law 995 = .ok (.ifCond .eq 5, 3) := by decide +kernel
theorem dL_law_998 : decode cL_law 998 = .ok (.iconst 0, 1) := by decide +kernel
theorem dL_law_999 : decode cL_law 999 = .ok (.ireturn, 1) := by decide +kernel
theorem dL_law_1000 : decode cL_law 1000 = .ok (.goto 176, 3) := by decide +kernel
theorem dL_law_1003 : decode cL_law 1003 = .ok (.aload_n 1, 1) := by decide +kernel
theorem dL_law_1004 : decode cL_law 1004 = .ok (.aload_n 0, 1) := by decide +kernel
theorem dL_law_1005 : decode cL_law 1005 = .ok (.iload 4, 2) := by decide +kernel
theorem dL_law_1007 : decode cL_law 1007 = .ok (.iconst 1, 1) := by decide +kernel
theorem dL_law_1008 : decode cL_law 1008 = .ok (.iadd, 1) := by decide +kernel
theorem dL_law_1009 : decode cL_law 1009 = .ok (.iaload, 1) := by decide +kernel
theorem dL_law_1010 : decode cL_law 1010 = .ok (.invokestatic 133, 3) := by decide +kernel
theorem dL_law_1013 : decode cL_law 1013 = .ok (.istore 5, 2) := by decide +kernel
theorem dL_law_1015 : decode cL_law 1015 = .ok (.aload_n 2, 1) := by decide +kernel
theorem dL_law_1016 : decode cL_law 1016 = .ok (.aload_n 0, 1) := by decide +kernel
theorem dL_law_1017 : decode cL_law 1017 = .ok (.iload 4, 2) := by decide +kernel
theorem dL_law_1019 : decode cL_law 1019 = .ok (.iconst 1, 1) := by decide +kernel
theorem dL_law_1020 : decode cL_law 1020 = .ok (.iadd, 1) := by decide +kernel
theorem dL_law_1021 : decode cL_law 1021 = .ok (.iaload, 1) := by decide +kernel
theorem dL_law_1022 : decode cL_law 1022 = .ok (.invokevirtual 136, 3) := by decide +kernel
theorem dL_law_1025 : decode cL_law 1025 = .ok (.aload_n 2, 1) := by decide +kernel
theorem dL_law_1026 : decode cL_law 1026 = .ok (.invokevirtual 83, 3) := by decide +kernel
theorem dL_law_1029 : decode cL_law 1029 = .ok (.iload 5, 2) := by decide +kernel
theorem dL_law_1031 : decode cL_law 1031 = .ok (.if_icmp .eq 5, 3) := by decide +kernel
theorem dL_law_1034 : decode cL_law 1034 = .ok (.iconst 0, 1) := by decide +kernel
theorem dL_law_1035 : decode cL_law 1035 = .ok (.ireturn, 1) := by decide +kernel
theorem dL_law_1036 : decode cL_law 1036 = .ok (.goto 140, 3) := by decide +kernel
theorem dL_law_1039 : decode cL_law 1039 = .ok (.aload_n 1, 1) := by decide +kernel
theorem dL_law_1040 : decode cL_law 1040 = .ok (.aload_n 0, 1) := by decide +kernel
theorem dL_law_1041 : decode cL_law 1041 = .ok (.iload 4, 2) := by decide +kernel
theorem dL_law_1043 : decode cL_law 1043 = .ok (.iconst 1, 1) := by decide +kernel
theorem dL_law_1044 : decode cL_law 1044 = .ok (.iadd, 1) := by decide +kernel
theorem dL_law_1045 : decode cL_law 1045 = .ok (.iaload, 1) := by decide +kernel
theorem dL_law_1046 : decode cL_law 1046 = .ok (.aload_n 3, 1) := by decide +kernel
theorem dL_law_1047 : decode cL_law 1047 = .ok (.invokestatic 137, 3) := by decide +kernel
theorem dL_law_1050 : decode cL_law 1050 = .ok (.istore 5, 2) := by decide +kernel
theorem dL_law_1052 : decode cL_law 1052 = .ok (.aload_n 2, 1) := by decide +kernel
theorem dL_law_1053 : decode cL_law 1053 = .ok (.aload_n 0, 1) := by decide +kernel
theorem dL_law_1054 : decode cL_law 1054 = .ok (.iload 4, 2) := by decide +kernel
theorem dL_law_1056 : decode cL_law 1056 = .ok (.iconst 1, 1) := by decide +kernel
theorem dL_law_1057 : decode cL_law 1057 = .ok (.iadd, 1) := by decide +kernel
theorem dL_law_1058 : decode cL_law 1058 = .ok (.iaload, 1) := by decide +kernel
theorem dL_law_1059 : decode cL_law 1059 = .ok (.invokevirtual 139, 3) := by decide +kernel
theorem dL_law_1062 : decode cL_law 1062 = .ok (.istore 6, 2) := by decide +kernel
theorem dL_law_1064 : decode cL_law 1064 = .ok (.aload_n 2, 1) := by decide +kernel
theorem dL_law_1065 : decode cL_law 1065 = .ok (.invokevirtual 83, 3) := by decide +kernel
theorem dL_law_1068 : decode cL_law 1068 = .ok (.iload 5, 2) := by decide +kernel
theorem dL_law_1070 : decode cL_law 1070 = .ok (.if_icmp .eq 5, 3) := by decide +kernel
theorem dL_law_1073 : decode cL_law 1073 = .ok (.iconst 0, 1) := by decide +kernel
theorem dL_law_1074 : decode cL_law 1074 = .ok (.ireturn, 1) := by decide +kernel
theorem dL_law_1075 : decode cL_law 1075 = .ok (.iload 5, 2) := by decide +kernel
theorem dL_law_1077 : decode cL_law 1077 = .ok (.ifCond .ne 15, 3) := by decide +kernel
theorem dL_law_1080 : decode cL_law 1080 = .ok (.aload_n 3, 1) := by decide +kernel
theorem dL_law_1081 : decode cL_law 1081 = .ok (.iconst 0, 1) := by decide +kernel
theorem dL_law_1082 : decode cL_law 1082 = .ok (.laload, 1) := by decide +kernel
theorem dL_law_1083 : decode cL_law 1083 = .ok (.iload 6, 2) := by decide +kernel
theorem dL_law_1085 : decode cL_law 1085 = .ok (.i2l, 1) := by decide +kernel
theorem dL_law_1086 : decode cL_law 1086 = .ok (.lcmp, 1) := by decide +kernel
theorem dL_law_1087 : decode cL_law 1087 = .ok (.ifCond .eq 5, 3) := by decide +kernel
theorem dL_law_1090 : decode cL_law 1090 = .ok (.iconst 0, 1) := by decide +kernel
theorem dL_law_1091 : decode cL_law 1091 = .ok (.ireturn, 1) := by decide +kernel
theorem dL_law_1092 : decode cL_law 1092 = .ok (.goto 84, 3) := by decide +kernel
theorem dL_law_1095 : decode cL_law 1095 = .ok (.aload_n 1, 1) := by decide +kernel
theorem dL_law_1096 : decode cL_law 1096 = .ok (.invokevirtual 140, 3) := by decide +kernel
theorem dL_law_1099 : decode cL_law 1099 = .ok (.aload_n 2, 1) := by decide +kernel
theorem dL_law_1100 : decode cL_law 1100 = .ok (.invokevirtual 143, 3) := by decide +kernel
theorem dL_law_1103 : decode cL_law 1103 = .ok (.if_icmp .eq 73, 3) := by decide +kernel
theorem dL_law_1106 : decode cL_law 1106 = .ok (.iconst 0, 1) := by decide +kernel
theorem dL_law_1107 : decode cL_law 1107 = .ok (.ireturn, 1) := by decide +kernel
theorem dL_law_1108 : decode cL_law 1108 = .ok (.aload_n 1, 1) := by decide +kernel
theorem dL_law_1109 : decode cL_law 1109 = .ok (.aload_n 0, 1) := by decide +kernel
theorem dL_law_1110 : decode cL_law 1110 = .ok (.iload 4, 2) := by decide +kernel
theorem dL_law_1112 : decode cL_law 1112 = .ok (.iconst 1, 1) := by decide +kernel
theorem dL_law_1113 : decode cL_law 1113 = .ok (.iadd, 1) := by decide +kernel
theorem dL_law_1114 : decode cL_law 1114 = .ok (.iaload, 1) := by decide +kernel
theorem dL_law_1115 : decode cL_law 1115 = .ok (.aload_n 0, 1) := by decide +kernel
theorem dL_law_1116 : decode cL_law 1116 = .ok (.iload 4, 2) := by decide +kernel
theorem dL_law_1118 : decode cL_law 1118 = .ok (.iconst 2, 1) := by decide +kernel
theorem dL_law_1119 : decode cL_law 1119 = .ok (.iadd, 1) := by decide +kernel
theorem dL_law_1120 : decode cL_law 1120 = .ok (.iaload, 1) := by decide +kernel
theorem dL_law_1121 : decode cL_law 1121 = .ok (.aload_n 3, 1) := by decide +kernel
theorem dL_law_1122 : decode cL_law 1122 = .ok (.invokestatic 144, 3) := by decide +kernel
theorem dL_law_1125 : decode cL_law 1125 = .ok (.istore 5, 2) := by decide +kernel
theorem dL_law_1127 : decode cL_law 1127 = .ok (.aload_n 2, 1) := by decide +kernel
theorem dL_law_1128 : decode cL_law 1128 = .ok (.aload_n 0, 1) := by decide +kernel
theorem dL_law_1129 : decode cL_law 1129 = .ok (.iload 4, 2) := by decide +kernel
theorem dL_law_1131 : decode cL_law 1131 = .ok (.iconst 1, 1) := by decide +kernel
theorem dL_law_1132 : decode cL_law 1132 = .ok (.iadd, 1) := by decide +kernel
theorem dL_law_1133 : decode cL_law 1133 = .ok (.iaload, 1) := by decide +kernel
theorem dL_law_1134 : decode cL_law 1134 = .ok (.aload_n 0, 1) := by decide +kernel
theorem dL_law_1135 : decode cL_law 1135 = .ok (.iload 4, 2) := by decide +kernel
theorem dL_law_1137 : decode cL_law 1137 = .ok (.iconst 2, 1) := by decide +kernel
theorem dL_law_1138 : decode cL_law 1138 = .ok (.iadd, 1) := by decide +kernel
theorem dL_law_1139 : decode cL_law 1139 = .ok (.iaload, 1) := by decide +kernel
theorem dL_law_1140 : decode cL_law 1140 = .ok (.invokevirtual 146, 3) := by decide +kernel
theorem dL_law_1143 : decode cL_law 1143 = .ok (.istore 6, 2) := by decide +kernel
theorem dL_law_1145 : decode cL_law 1145 = .ok (.aload_n 2, 1) := by decide +kernel
theorem dL_law_1146 : decode cL_law 1146 = .ok (.invokevirtual 83, 3) := by decide +kernel
theorem dL_law_1149 : decode cL_law 1149 = .ok (.iload 5, 2) := by decide +kernel
theorem dL_law_1151 : decode cL_law 1151 = .ok (.if_icmp .eq 5, 3) := by decide +kernel
theorem dL_law_1154 : decode cL_law 1154 = .ok (.iconst 0, 1) := by decide +kernel
theorem dL_law_1155 : decode cL_law 1155 = .ok (.ireturn, 1) := by decide +kernel
theorem dL_law_1156 : decode cL_law 1156 = .ok (.iload 5, 2) := by decide +kernel
theorem dL_law_1158 : decode cL_law 1158 = .ok (.ifCond .ne 15, 3) := by decide +kernel
theorem dL_law_1161 : decode cL_law 1161 = .ok (.aload_n 3, 1) := by decide +kernel
theorem dL_law_1162 : decode cL_law 1162 = .ok (.iconst 0, 1) := by decide +kernel
theorem dL_law_1163 : decode cL_law 1163 = .ok (.laload, 1) := by decide +kernel
theorem dL_law_1164 : decode cL_law 1164 = .ok (.iload 6, 2) := by decide +kernel
theorem dL_law_1166 : decode cL_law 1166 = .ok (.i2l, 1) := by decide +kernel
theorem dL_law_1167 : decode cL_law 1167 = .ok (.lcmp, 1) := by decide +kernel
theorem dL_law_1168 : decode cL_law 1168 = .ok (.ifCond .eq 5, 3) := by decide +kernel
theorem dL_law_1171 : decode cL_law 1171 = .ok (.iconst 0, 1) := by decide +kernel
theorem dL_law_1172 : decode cL_law 1172 = .ok (.ireturn, 1) := by decide +kernel
theorem dL_law_1173 : decode cL_law 1173 = .ok (.goto 3, 3) := by decide +kernel
theorem dL_law_1176 : decode cL_law 1176 = .ok (.iinc 4 7, 3) := by decide +kernel
theorem dL_law_1179 : decode cL_law 1179 = .ok (.goto (-1156), 3) := by decide +kernel
theorem dL_law_1182 : decode cL_law 1182 = .ok (.iconst 1, 1) := by decide +kernel
theorem dL_law_1183 : decode cL_law 1183 = .ok (.ireturn, 1) := by decide +kernel
end
section
/-! Own rows: reading an array at a counted place; booleans as ints; counting. -/
section OWNB
variable {p : Program} {l : Launch} {e : Env} {R : Room} {s : State} {m : MethodId} {args : Array Value} {below : List Frame} {meth : Method} {c : Code} {H : Heap} {locs : List Loc} {cells slots : Nat} {Q : State → Prop}
variable {cc : ByteArray} {pc : Nat} {ls : Array Slot} {rest : List Value} {D : va_G} {cl : List vw_C} {ws : va_W} {tys : List (ClassId × FieldType)} {a : Nat} {A : Nat → Prop} {H0 : Heap}
theorem wi_ald (hexec : p.tables.exec = Jvm.exec) (hb : c.code = cc) (hK : va_K D cl tys s) (hP : va_P D cl ws H) (q0 t0 : Nat) {cA : ClassId} {n : Nat} {f : Nat → Int32} (ha : ws[q0]? = some (a, .inl (cA, n, .inl f))) (ht : tys[t0]? = some (cA, .int)) {k : Nat} (hk : k < n) (hn : n < 2 ^ 31) (hdg : decode cc pc = .ok (.iaload, 1))
    (kk : W p l e R s m args below meth c H locs cells slots Q (F0 m (pc + 1) ls (.int (f k) :: rest))) : W p l e R s m args below meth c H locs cells slots Q (F0 m pc ls (.int (nI k) :: .ref a :: rest)) := by
  refine va_iald hexec hb hK hP q0 t0 ha ht (vp_in_nI hk hn) hdg ?_
  rw [nI_clamp (Nat.lt_trans hk hn)]
  exact kk
theorem wz_ald (hexec : p.tables.exec = Jvm.exec) (hb : c.code = cc) (hK : va_K D cl tys s) (hP : va_P D cl ws H) (q0 t0 : Nat) {cA : ClassId} {n : Nat} {f : Nat → Int32} (ha : ws[q0]? = some (a, .inl (cA, n, .inl f))) (ht : tys[t0]? = some (cA, .boolean)) {k : Nat} (hk : k < n) (hn : n < 2 ^ 31) (hdg : decode cc pc = .ok (.baload, 1))
    (kk : W p l e R s m args below meth c H locs cells slots Q (F0 m (pc + 1) ls (.int (f k) :: rest))) : W p l e R s m args below meth c H locs cells slots Q (F0 m pc ls (.int (nI k) :: .ref a :: rest)) := by
  refine va_zald hexec hb hK hP q0 t0 ha ht (vp_in_nI hk hn) hdg ?_
  rw [nI_clamp (Nat.lt_trans hk hn)]
  exact kk
theorem wi_ast (hexec : p.tables.exec = Jvm.exec) (hb : c.code = cc) (hK : va_K D cl tys s) (hP : va_P D cl ws H) (hD : va_D A ws) (hS : va_S A H0 H locs) (q0 t0 : Nat) {cA : ClassId} {n : Nat} {f : Nat → Int32} (ha : ws[q0]? = some (a, .inl (cA, n, .inl f))) (ht : tys[t0]? = some (cA, .int)) {k : Nat} {x : Int32} (hk : k < n) (hn : n < 2 ^ 31) (hdg : decode cc pc = .ok (.iastore, 1))
    (kk : ∀ (H1 : Heap) (locs1 : List Loc), va_P D cl (ws.set q0 (a, .inl (cA, n, .inl (upd f k x)))) H1 → va_D A (ws.set q0 (a, .inl (cA, n, .inl (upd f k x)))) → va_S A H0 H1 locs1 → W p l e R s m args below meth c H1 locs1 cells slots Q (F0 m (pc + 1) ls rest)) : W p l e R s m args below meth c H locs cells slots Q (F0 m pc ls (.int x :: .int (nI k) :: .ref a :: rest)) := by
  refine va_iast hexec hb hK hP hD hS q0 t0 ha ht (vp_in_nI hk hn) hdg ?_
  rw [nI_clamp (Nat.lt_trans hk hn)]
  exact kk
theorem wz_ast (hexec : p.tables.exec = Jvm.exec) (hb : c.code = cc) (hK : va_K D cl tys s) (hP : va_P D cl ws H) (hD : va_D A ws) (hS : va_S A H0 H locs) (q0 t0 : Nat) {cA : ClassId} {n : Nat} {f : Nat → Int32} (ha : ws[q0]? = some (a, .inl (cA, n, .inl f))) (ht : tys[t0]? = some (cA, .boolean)) {k : Nat} {x : Int32} (hx1 : vp_nar .boolean x = x) (hk : k < n) (hn : n < 2 ^ 31) (hdg : decode cc pc = .ok (.bastore, 1))
    (kk : ∀ (H1 : Heap) (locs1 : List Loc), va_P D cl (ws.set q0 (a, .inl (cA, n, .inl (upd f k x)))) H1 → va_D A (ws.set q0 (a, .inl (cA, n, .inl (upd f k x)))) → va_S A H0 H1 locs1 → W p l e R s m args below meth c H1 locs1 cells slots Q (F0 m (pc + 1) ls rest)) : W p l e R s m args below meth c H locs cells slots Q (F0 m pc ls (.int x :: .int (nI k) :: .ref a :: rest)) := by
  refine va_zast hexec hb hK hP hD hS q0 t0 ha ht (vp_in_nI hk hn) hdg ?_
  rw [nI_clamp (Nat.lt_trans hk hn), hx1]
  exact kk
end OWNB
def bI (b : Bool) : Int32 := if b = true then 1 else 0
theorem bI_0 {b : Bool} : bI b = 0 ↔ b = false := by cases b <;> simp [bI]
theorem bI_n0 {b : Bool} : ¬ bI b = 0 ↔ b = true := by cases b <;> simp [bI]
theorem bI_t : bI true = 1 := rfl
theorem bI_f : bI false = 0 := rfl
/-- how many of the first n -/
def cnt (P : Nat → Bool) : Nat → Int32
  | 0 => 0
  | n + 1 => cnt P n + bI (P n)
theorem cnt_s {P : Nat → Bool} {n : Nat} : cnt P (n + 1) = cnt P n + bI (P n) := rfl
/-- a sum over the first n -/
def isum (f : Nat → Int32) : Nat → Int32
  | 0 => 0
  | n + 1 => isum f n + f n
theorem isum_s {f : Nat → Int32} {n : Nat} : isum f (n + 1) = isum f n + f n := rfl
/-! what the class reckons, over its columns g and numbers v -/
/- g: 0 people; 1 days, 2 marks of definitions; 3 day, 4 hour, 5 kind, 6 area, 7 station, 8 marks, 9 turn-out, 10 travel of rows; 11 sorted; 12 counts of a trend; 13 rows of areas; 14 joined.  v: 0 from, 1 to, 2 kind, 3 area asked; 4 definitions, 5 rows, 6 periods, 7 least, 8 together -/
def hidB (g : Nat → Nat → Int32) (k : Nat) : Bool := decide (¬ (g 8 k &&& 2) = 0)
def spanB (g : Nat → Nat → Int32) (k : Nat) (f t : Int32) : Bool := decide (f ≤ g 3 k) && decide (g 3 k ≤ t)
def askB (g : Nat → Nat → Int32) (k : Nat) (f t kd ar : Int32) : Bool := !(hidB g k) && spanB g k f t && (decide (kd = -1) || decide (g 5 k = kd)) && (decide (ar = -1) || decide (g 6 k = ar))
def workB (g : Nat → Nat → Int32) (k : Nat) (st f t : Int32) : Bool := decide (g 7 k = st) && askB g k f t (-1) (-1)
def bothB (g : Nat → Nat → Int32) (k : Nat) : Bool := decide (¬ g 9 k = -1) && decide (¬ g 10 k = -1)
def woutB (g : Nat → Nat → Int32) (k : Nat) (mk : Int32) : Bool := decide (mk = -1) || !(bothB g k)
def winB (g : Nat → Nat → Int32) (k : Nat) (mk : Int32) : Bool := !(woutB g k mk) && decide (g 9 k + g 10 k ≤ mk)
def secs (x : Int32) : Int32 := if x = -1 then 0 else x
def amt (g : Nat → Nat → Int32) (k : Nat) (what mk : Int32) : Int32 :=
  if what = 0 then 1 else if what = 1 then bI (decide (¬ (g 8 k &&& 1) = 0)) else if what = 2 then bI (winB g k mk) else if what = 3 then bI (woutB g k mk) else if what = 4 then secs (g 9 k) else 0
/-- the mark that holds on a day, and since when: out of the first n definitions -/
def mkF (g : Nat → Nat → Int32) (day : Int32) : Nat → Int32 × Int32
  | 0 => (-1, 0)
  | n + 1 => if g 1 n ≤ day ∧ (mkF g day n).2 ≤ g 1 n then (g 2 n, g 1 n) else mkF g day n
def mkOn (g : Nat → Nat → Int32) (n : Nat) (day : Int32) : Int32 := (mkF g day n).1
/-! the one world of the class: cells a 0 .. a 19, numbers v, columns g -/
abbrev StA : Type := (Nat → Int32) × (Nat → Nat → Int32)
abbrev wA (cI cZ : ClassId) (a : Nat → Nat) (v : Nat → Int32) (g : Nat → Nat → Int32) : va_W :=
  [(a 0, .inr (4, [.ref (a 2), .ref (a 5), .ref (a 15), .ref (a 17), .ref (a 1), .int (v 0), .int (v 1), .int (v 2), .int (v 3)])),
   (a 1, .inl (cI, 10, .inl (g 0))),
   (a 2, .inr (0, [.ref (a 3), .ref (a 4), .int (v 4)])), (a 3, .inl (cI, 6, .inl (g 1))), (a 4, .inl (cI, 6, .inl (g 2))),
   (a 5, .inr (1, [.ref (a 6), .ref (a 7), .ref (a 8), .ref (a 9), .ref (a 10), .ref (a 11), .ref (a 12), .ref (a 13), .ref (a 14), .int (v 5)])),
   (a 6, .inl (cI, 200, .inl (g 3))), (a 7, .inl (cI, 200, .inl (g 4))), (a 8, .inl (cI, 200, .inl (g 5))), (a 9, .inl (cI, 200, .inl (g 6))), (a 10, .inl (cI, 200, .inl (g 7))), (a 11, .inl (cI, 200, .inl (g 8))), (a 12, .inl (cI, 200, .inl (g 9))), (a 13, .inl (cI, 200, .inl (g 10))), (a 14, .inl (cI, 200, .inl (g 11))),
   (a 15, .inr (3, [.ref (a 16), .int (v 6)])), (a 16, .inl (cI, 6, .inl (g 12))),
   (a 17, .inr (2, [.ref (a 18), .ref (a 19), .int (v 7), .int (v 8)])), (a 18, .inl (cI, 10, .inl (g 13))), (a 19, .inl (cZ, 10, .inl (g 14)))]
abbrev tyA (cI cZ cJ : ClassId) : List (ClassId × FieldType) := [(cI, .int), (cZ, .boolean), (cJ, .long)]
/-- a column written -/
def upg (g : Nat → Nat → Int32) (j k : Nat) (x : Int32) : Nat → Nat → Int32 := fun i => if i = j then upd (g j) k x else g i
abbrev atA (dC : Nat → ClassId) (dI : Nat → Nat → Nat) (cI cZ cJ : ClassId) (a : Nat → Nat) (A : Nat → Prop) (u : StA) (t : State) : Prop :=
  va_P (dC, dI) clA (wA cI cZ a u.1 u.2) t.heap ∧ va_K (dC, dI) clA (tyA cI cZ cJ) t ∧ va_D A (wA cI cZ a u.1 u.2)
/-- a caller's words hold a callee's -/
theorem gd_V {c0 c1 : Cond} {own : String} {idx : Nat} {C : String} {y : MethodName} (h1 : Cond.methodLink own idx y ∈ allW) (h2 : Cond.instanceMethod y ∈ allW) (h3 : Cond.selects C y y ∈ allW) (h4 : Cond.initialized C ∈ allW) (h5 : c1 ∈ allW) : GoodIn (c0 :: allW) (wsV own idx C y (c1 :: allW)) := by
  intro w hw
  have hm : w ∈ allW := by
    simp only [wsV, List.mem_append, List.mem_cons, List.not_mem_nil, or_false] at hw
    rcases hw with (rfl | rfl | rfl | rfl) | rfl | h
    · exact h1
    · exact h2
    · exact h3
    · exact h4
    · exact h5
    · exact h
  exact ⟨List.mem_cons_of_mem _ hm, good_of_word (List.mem_filter.mp hm).2⟩
theorem gd_S {c0 c1 : Cond} {own : String} {idx : Nat} {y : MethodName} (h1 : Cond.methodLink own idx y ∈ allW) (h2 : Cond.static y ∈ allW) (h4 : Cond.initialized own ∈ allW) (h5 : c1 ∈ allW) : GoodIn (c0 :: allW) (wsS own idx y (c1 :: allW)) := by
  intro w hw
  have hm : w ∈ allW := by
    simp only [wsS, List.mem_append, List.mem_cons, List.not_mem_nil, or_false] at hw
    rcases hw with (rfl | rfl | rfl) | rfl | h
    · exact h1
    · exact h2
    · exact h4
    · exact h5
    · exact h
  exact ⟨List.mem_cons_of_mem _ hm, good_of_word (List.mem_filter.mp hm).2⟩
theorem gd_I {c0 c1 : Cond} (h5 : c1 ∈ allW) : GoodIn (c0 :: allW) (c1 :: allW) := by
  intro w hw
  have hm : w ∈ allW := by
    rcases List.mem_cons.mp hw with rfl | h
    · exact h5
    · exact h
  exact ⟨List.mem_cons_of_mem _ hm, good_of_word (List.mem_filter.mp hm).2⟩
end
section
abbrev RInteger : String := "java/lang/Integer"
abbrev cInteger_compare : ByteArray := prog_12_method_40_code
abbrev yInteger_compare : MethodName := ⟨RInteger, "compare", "(II)I"⟩
abbrev wsInteger_compare : List Cond := .code yInteger_compare cInteger_compare 2 (some .int) :: allW
theorem kInteger_compare : (.code yInteger_compare cInteger_compare 2 (some .int) : Cond) ∈ allW := aw 505 (by decide +kernel) (by decide +kernel)
theorem sm_Integer_compare : (Cond.static yInteger_compare) ∈ allW := aw 504 (by decide +kernel) (by decide +kernel)
abbrev RMath : String := "java/lang/Math"
abbrev cMath_min : ByteArray := prog_13_method_69_code
abbrev yMath_min : MethodName := ⟨RMath, "min", "(II)I"⟩
abbrev wsMath_min : List Cond := .code yMath_min cMath_min 2 (some .int) :: allW
theorem kMath_min : (.code yMath_min cMath_min 2 (some .int) : Cond) ∈ allW := aw 519 (by decide +kernel) (by decide +kernel)
theorem sm_Math_min : (Cond.static yMath_min) ∈ allW := aw 518 (by decide +kernel) (by decide +kernel)
theorem dInteger_compare_0 : decode cInteger_compare 0 = .ok (.iload_n 0, 1) := by decide +kernel
theorem dInteger_compare_1 : decode cInteger_compare 1 = .ok (.iload_n 1, 1) := by decide +kernel
theorem dInteger_compare_2 : decode cInteger_compare 2 = .ok (.if_icmp .ge 7, 3) := by decide +kernel
theorem dInteger_compare_5 : decode cInteger_compare 5 = .ok (.iconst (-1), 1) := by decide +kernel
theorem dInteger_compare_6 : decode cInteger_compare 6 = .ok (.goto 13, 3) := by decide +kernel
theorem dInteger_compare_9 : decode cInteger_compare 9 = .ok (.iload_n 0, 1) := by decide +kernel
theorem dInteger_compare_10 : decode cInteger_compare 10 = .ok (.iload_n 1, 1) := by decide +kernel
theorem dInteger_compare_11 : decode cInteger_compare 11 = .ok (.if_icmp .ne 7, 3) := by decide +kernel
theorem dInteger_compare_14 : decode cInteger_compare 14 = .ok (.iconst 0, 1) := by decide +kernel
theorem dInteger_compare_15 : decode cInteger_compare 15 = .ok (.goto 4, 3) := by decide +kernel
theorem dInteger_compare_18 : decode cInteger_compare 18 = .ok (.iconst 1, 1) := by decide +kernel
theorem dInteger_compare_19 : decode cInteger_compare 19 = .ok (.ireturn, 1) := by decide +kernel
theorem dMath_min_0 : decode cMath_min 0 = .ok (.iload_n 0, 1) := by decide +kernel
theorem dMath_min_1 : decode cMath_min 1 = .ok (.iload_n 1, 1) := by decide +kernel
theorem dMath_min_2 : decode cMath_min 2 = .ok (.if_icmp .gt 7, 3) := by decide +kernel
theorem dMath_min_5 : decode cMath_min 5 = .ok (.iload_n 0, 1) := by decide +kernel
theorem dMath_min_6 : decode cMath_min 6 = .ok (.goto 4, 3) := by decide +kernel
theorem dMath_min_9 : decode cMath_min 9 = .ok (.iload_n 1, 1) := by decide +kernel
theorem dMath_min_10 : decode cMath_min 10 = .ok (.ireturn, 1) := by decide +kernel
theorem gd_J {c0 c1 : Cond} {own : String} {idx : Nat} {y : MethodName} (h1 : Cond.methodLink own idx y ∈ allW) (h2 : Cond.static y ∈ allW) (h4 : Cond.initialized y.cls ∈ allW) (h5 : c1 ∈ allW) : GoodIn (c0 :: allW) (va_wsS own idx y (c1 :: allW)) := by
  intro w hw
  have hm : w ∈ allW := by
    simp only [va_wsS, List.mem_append, List.mem_cons, List.not_mem_nil, or_false] at hw
    rcases hw with (rfl | rfl | rfl) | rfl | h
    · exact h1
    · exact h2
    · exact h4
    · exact h5
    · exact h
  exact ⟨List.mem_cons_of_mem _ hm, good_of_word (List.mem_filter.mp hm).2⟩
end
section
set_option maxHeartbeats 4000000 in
set_option maxRecDepth 100000 in
theorem c_secondsOf (l : Launch) (dC : Nat → ClassId) (dI : Nat → Nat → Nat) (cI cZ cJ : ClassId) (a : Nat → Nat) (v : Nat → Int32) (g : Nat → Nat → Int32) (x : Int32) : Met l yX1_secondsOf wsX1_secondsOf ({ frames := 0, cells := 0, slots := 0, locals := 0 }) (va_Pc [.int x] (fun U => va_P (dC, dI) clA (wA cI cZ a v g) U.heap ∧ va_K (dC, dI) clA (tyA cI cZ cJ) U)) (vp_Si (fun r => r = secs x)) 0 0 (fun _ => False) := by
  refine Met.ofW (cc := cX1_secondsOf) (maxL := 1) (ret := (some .int)) (by decide) rfl ?_
  intro p e s m args below meth c s₁ B hml hv
  obtain ⟨rfl, hP, hK⟩ := hv
  have hx := B.exec
  have hb := B.bytes
  have hr := B.returns
  have hts := atoms_spec (ws := wsX1_secondsOf) B.pre
  have hown : s.vm.findClass RX1 = some m.cls := findClass_of_methodNamed B.named
  have hlocks := B.notSynchronized
  have hl := lv_entry ([.int x]) (n := 1) (Nat.le_of_ble_eq_true rfl)
  rw [lg_entry_eq]
  generalize (lg_sl ([.int x]) ++ List.replicate (1 - (lg_sl ([.int x])).length) Slot.unset).toArray = ls at hl ⊢
  have hl : lv_has ls 1 [(0, .int x)] := hl
  refine lv_iload_n hx hb dX1_secondsOf_0 rfl (lv_at hl 0 rfl) ?_
  refine lv_iconst (v := (-1)) hx hb dX1_secondsOf_1 (by decide) ?_
  refine lv_icmp_ne (tgt := 9) hx hb dX1_secondsOf_2 (by decide) (fun c2 => ?_) (fun c2 => ?_)
  · refine lv_iload_n hx hb dX1_secondsOf_9 rfl (lv_at hl 0 rfl) ?_
    exact W.iret (v := x) hx hb hr (fun t ht hW => ⟨_, rfl, (by simp [secs, c2]), ht⟩) (fun _ h => absurd h List.not_mem_nil) dX1_secondsOf_10
  · refine lv_iconst (v := 0) hx hb dX1_secondsOf_5 (by decide) ?_
    refine lv_goto (tgt := 10) hx hb dX1_secondsOf_6 (by decide) ?_
    exact W.iret (v := 0) hx hb hr (fun t ht hW => ⟨_, rfl, (by simp [secs, c2]), ht⟩) (fun _ h => absurd h List.not_mem_nil) dX1_secondsOf_10
set_option maxHeartbeats 4000000 in
set_option maxRecDepth 100000 in
theorem c_isHidden (l : Launch) (dC : Nat → ClassId) (dI : Nat → Nat → Nat) (cI cZ cJ : ClassId) (a : Nat → Nat) (v : Nat → Int32) (g : Nat → Nat → Int32) (k : Nat) (hk : k < 200) : Met l yX1_isHidden wsX1_isHidden ({ frames := 0, cells := 0, slots := 0, locals := 0 }) (va_Pc [.ref (a 5), .int (nI k)] (fun U => va_P (dC, dI) clA (wA cI cZ a v g) U.heap ∧ va_K (dC, dI) clA (tyA cI cZ cJ) U)) (vp_Si (fun r => r = bI (hidB g k))) 0 0 (fun _ => False) := by
  refine Met.ofW (cc := cX1_isHidden) (maxL := 2) (ret := (some .boolean)) (by decide) rfl ?_
  intro p e s m args below meth c s₁ B hml hv
  obtain ⟨rfl, hP, hK⟩ := hv
  have hx := B.exec
  have hb := B.bytes
  have hr := B.returns
  have hts := atoms_spec (ws := wsX1_isHidden) B.pre
  have hown : s.vm.findClass RX1 = some m.cls := findClass_of_methodNamed B.named
  have hlocks := B.notSynchronized
  have hl := lv_entry ([.ref (a 5), .int (nI k)]) (n := 2) (Nat.le_of_ble_eq_true rfl)
  rw [lg_entry_eq]
  generalize (lg_sl ([.ref (a 5), .int (nI k)]) ++ List.replicate (2 - (lg_sl ([.ref (a 5), .int (nI k)])).length) Slot.unset).toArray = ls at hl ⊢
  have hl : lv_has ls 2 [(0, .ref (a 5)), (1, .int (nI k))] := hl
  refine lv_aload_n hx hb dX1_isHidden_0 rfl (lv_at hl 0 rfl) ?_
  refine va_get (D := (dC, dI)) (ci := 1) (v := .ref (a 11)) (C := RX1) (T := TX1) (N := 10) hx hb hts (fun w h => List.mem_cons_of_mem _ (iw_X1 w h)) hown hK hP 5 rfl rfl 5 (by decide) (hts _ (List.mem_cons_of_mem _ fl_X1_marks)) (fun _ h9 => h9) rfl dX1_isHidden_1 ?_
  refine lv_iload_n hx hb dX1_isHidden_4 rfl (lv_at hl 1 rfl) ?_
  refine wi_ald hx hb hK hP 11 0 rfl rfl (k := k) (by omega) (by decide) dX1_isHidden_5 ?_
  refine lv_iconst (v := 2) hx hb dX1_isHidden_6 (by decide) ?_
  refine lv_iand hx hb dX1_isHidden_7 ?_
  refine lv_if_eq (tgt := 15) hx hb dX1_isHidden_8 (by decide) (fun c8 => ?_) (fun c8 => ?_)
  · refine lv_iconst (v := 0) hx hb dX1_isHidden_15 (by decide) ?_
    exact W.zret (v := 0) hx hb hr rfl (fun t ht hW => ⟨_, rfl, (by simp [hidB, bI, c8]), ht⟩) (fun _ h => absurd h List.not_mem_nil) dX1_isHidden_16
  · refine lv_iconst (v := 1) hx hb dX1_isHidden_11 (by decide) ?_
    refine lv_goto (tgt := 16) hx hb dX1_isHidden_12 (by decide) ?_
    exact W.zret (v := 1) hx hb hr rfl (fun t ht hW => ⟨_, rfl, (by simp [hidB, bI, c8]), ht⟩) (fun _ h => absurd h List.not_mem_nil) dX1_isHidden_16
set_option maxHeartbeats 4000000 in
set_option maxRecDepth 100000 in
theorem c_isInSpan (l : Launch) (dC : Nat → ClassId) (dI : Nat → Nat → Nat) (cI cZ cJ : ClassId) (a : Nat → Nat) (v : Nat → Int32) (g : Nat → Nat → Int32) (k : Nat) (f t : Int32) (hk : k < 200) : Met l yX1_isInSpan wsX1_isInSpan ({ frames := 0, cells := 0, slots := 0, locals := 0 }) (va_Pc [.ref (a 5), .int (nI k), .int f, .int t] (fun U => va_P (dC, dI) clA (wA cI cZ a v g) U.heap ∧ va_K (dC, dI) clA (tyA cI cZ cJ) U)) (vp_Si (fun r => r = bI (spanB g k f t))) 0 0 (fun _ => False) := by
  refine Met.ofW (cc := cX1_isInSpan) (maxL := 4) (ret := (some .boolean)) (by decide) rfl ?_
  intro p e s m args below meth c s₁ B hml hv
  obtain ⟨rfl, hP, hK⟩ := hv
  have hx := B.exec
  have hb := B.bytes
  have hr := B.returns
  have hts := atoms_spec (ws := wsX1_isInSpan) B.pre
  have hown : s.vm.findClass RX1 = some m.cls := findClass_of_methodNamed B.named
  have hlocks := B.notSynchronized
  have hl := lv_entry ([.ref (a 5), .int (nI k), .int f, .int t]) (n := 4) (Nat.le_of_ble_eq_true rfl)
  rw [lg_entry_eq]
  generalize (lg_sl ([.ref (a 5), .int (nI k), .int f, .int t]) ++ List.replicate (4 - (lg_sl ([.ref (a 5), .int (nI k), .int f, .int t])).length) Slot.unset).toArray = ls at hl ⊢
  have hl : lv_has ls 4 [(0, .ref (a 5)), (1, .int (nI k)), (2, .int f), (3, .int t)] := hl
  refine lv_aload_n hx hb dX1_isInSpan_0 rfl (lv_at hl 0 rfl) ?_
  refine va_get (D := (dC, dI)) (ci := 1) (v := .ref (a 6)) (C := RX1) (T := TX1) (N := 10) hx hb hts (fun w h => List.mem_cons_of_mem _ (iw_X1 w h)) hown hK hP 5 rfl rfl 0 (by decide) (hts _ (List.mem_cons_of_mem _ fl_X1_days)) (fun _ h9 => h9) rfl dX1_isInSpan_1 ?_
  refine lv_iload_n hx hb dX1_isInSpan_4 rfl (lv_at hl 1 rfl) ?_
  refine wi_ald hx hb hK hP 6 0 rfl rfl (k := k) (by omega) (by decide) dX1_isInSpan_5 ?_
  refine lv_iload_n hx hb dX1_isInSpan_6 rfl (lv_at hl 2 rfl) ?_
  refine lv_icmp_lt (tgt := 24) hx hb dX1_isInSpan_7 (by decide) (fun c7 => ?_) (fun c7 => ?_)
  · have n7 := Int32.not_le.mpr c7
    refine lv_iconst (v := 0) hx hb dX1_isInSpan_24 (by decide) ?_
    exact W.zret (v := 0) hx hb hr rfl (fun t ht hW => ⟨_, rfl, (by simp [spanB, bI, c7, n7]), ht⟩) (fun _ h => absurd h List.not_mem_nil) dX1_isInSpan_25
  · have n7 := Int32.not_lt.mp c7
    refine lv_aload_n hx hb dX1_isInSpan_10 rfl (lv_at hl 0 rfl) ?_
    refine va_get (D := (dC, dI)) (ci := 1) (v := .ref (a 6)) (C := RX1) (T := TX1) (N := 10) hx hb hts (fun w h => List.mem_cons_of_mem _ (iw_X1 w h)) hown hK hP 5 rfl rfl 0 (by decide) (hts _ (List.mem_cons_of_mem _ fl_X1_days)) (fun _ h9 => h9) rfl dX1_isInSpan_11 ?_
    refine lv_iload_n hx hb dX1_isInSpan_14 rfl (lv_at hl 1 rfl) ?_
    refine wi_ald hx hb hK hP 6 0 rfl rfl (k := k) (by omega) (by decide) dX1_isInSpan_15 ?_
    refine lv_iload_n hx hb dX1_isInSpan_16 rfl (lv_at hl 3 rfl) ?_
    refine lv_icmp_gt (tgt := 24) hx hb dX1_isInSpan_17 (by decide) (fun c17 => ?_) (fun c17 => ?_)
    · have n17 := Int32.not_le.mpr c17
      refine lv_iconst (v := 0) hx hb dX1_isInSpan_24 (by decide) ?_
      exact W.zret (v := 0) hx hb hr rfl (fun t ht hW => ⟨_, rfl, (by simp [spanB, bI, c7, n7, c17, n17]), ht⟩) (fun _ h => absurd h List.not_mem_nil) dX1_isInSpan_25
    · have n17 := Int32.not_lt.mp c17
      refine lv_iconst (v := 1) hx hb dX1_isInSpan_20 (by decide) ?_
      refine lv_goto (tgt := 25) hx hb dX1_isInSpan_21 (by decide) ?_
      exact W.zret (v := 1) hx hb hr rfl (fun t ht hW => ⟨_, rfl, (by simp [spanB, bI, c7, n7, c17, n17]), ht⟩) (fun _ h => absurd h List.not_mem_nil) dX1_isInSpan_25
set_option maxHeartbeats 4000000 in
set_option maxRecDepth 100000 in
theorem c_hasBoth (l : Launch) (dC : Nat → ClassId) (dI : Nat → Nat → Nat) (cI cZ cJ : ClassId) (a : Nat → Nat) (v : Nat → Int32) (g : Nat → Nat → Int32) (k : Nat) (hk : k < 200) : Met l yX1_hasBothValues wsX1_hasBothValues ({ frames := 0, cells := 0, slots := 0, locals := 0 }) (va_Pc [.ref (a 5), .int (nI k)] (fun U => va_P (dC, dI) clA (wA cI cZ a v g) U.heap ∧ va_K (dC, dI) clA (tyA cI cZ cJ) U)) (vp_Si (fun r => r = bI (bothB g k))) 0 0 (fun _ => False) := by
  refine Met.ofW (cc := cX1_hasBothValues) (maxL := 2) (ret := (some .boolean)) (by decide) rfl ?_
  intro p e s m args below meth c s₁ B hml hv
  obtain ⟨rfl, hP, hK⟩ := hv
  have hx := B.exec
  have hb := B.bytes
  have hr := B.returns
  have hts := atoms_spec (ws := wsX1_hasBothValues) B.pre
  have hown : s.vm.findClass RX1 = some m.cls := findClass_of_methodNamed B.named
  have hlocks := B.notSynchronized
  have hl := lv_entry ([.ref (a 5), .int (nI k)]) (n := 2) (Nat.le_of_ble_eq_true rfl)
  rw [lg_entry_eq]
  generalize (lg_sl ([.ref (a 5), .int (nI k)]) ++ List.replicate (2 - (lg_sl ([.ref (a 5), .int (nI k)])).length) Slot.unset).toArray = ls at hl ⊢
  have hl : lv_has ls 2 [(0, .ref (a 5)), (1, .int (nI k))] := hl
  refine lv_aload_n hx hb dX1_hasBothValues_0 rfl (lv_at hl 0 rfl) ?_
  refine va_get (D := (dC, dI)) (ci := 1) (v := .ref (a 12)) (C := RX1) (T := TX1) (N := 10) hx hb hts (fun w h => List.mem_cons_of_mem _ (iw_X1 w h)) hown hK hP 5 rfl rfl 6 (by decide) (hts _ (List.mem_cons_of_mem _ fl_X1_turnOuts)) (fun _ h9 => h9) rfl dX1_hasBothValues_1 ?_
  refine lv_iload_n hx hb dX1_hasBothValues_4 rfl (lv_at hl 1 rfl) ?_
  refine wi_ald hx hb hK hP 12 0 rfl rfl (k := k) (by omega) (by decide) dX1_hasBothValues_5 ?_
  refine lv_iconst (v := (-1)) hx hb dX1_hasBothValues_6 (by decide) ?_
  refine lv_icmp_eq (tgt := 24) hx hb dX1_hasBothValues_7 (by decide) (fun c7 => ?_) (fun c7 => ?_)
  · refine lv_iconst (v := 0) hx hb dX1_hasBothValues_24 (by decide) ?_
    exact W.zret (v := 0) hx hb hr rfl (fun t ht hW => ⟨_, rfl, (by simp [bothB, bI, c7]), ht⟩) (fun _ h => absurd h List.not_mem_nil) dX1_hasBothValues_25
  · refine lv_aload_n hx hb dX1_hasBothValues_10 rfl (lv_at hl 0 rfl) ?_
    refine va_get (D := (dC, dI)) (ci := 1) (v := .ref (a 13)) (C := RX1) (T := TX1) (N := 10) hx hb hts (fun w h => List.mem_cons_of_mem _ (iw_X1 w h)) hown hK hP 5 rfl rfl 7 (by decide) (hts _ (List.mem_cons_of_mem _ fl_X1_travels)) (fun _ h9 => h9) rfl dX1_hasBothValues_11 ?_
    refine lv_iload_n hx hb dX1_hasBothValues_14 rfl (lv_at hl 1 rfl) ?_
    refine wi_ald hx hb hK hP 13 0 rfl rfl (k := k) (by omega) (by decide) dX1_hasBothValues_15 ?_
    refine lv_iconst (v := (-1)) hx hb dX1_hasBothValues_16 (by decide) ?_
    refine lv_icmp_eq (tgt := 24) hx hb dX1_hasBothValues_17 (by decide) (fun c17 => ?_) (fun c17 => ?_)
    · refine lv_iconst (v := 0) hx hb dX1_hasBothValues_24 (by decide) ?_
      exact W.zret (v := 0) hx hb hr rfl (fun t ht hW => ⟨_, rfl, (by simp [bothB, bI, c7, c17]), ht⟩) (fun _ h => absurd h List.not_mem_nil) dX1_hasBothValues_25
    · refine lv_iconst (v := 1) hx hb dX1_hasBothValues_20 (by decide) ?_
      refine lv_goto (tgt := 25) hx hb dX1_hasBothValues_21 (by decide) ?_
      exact W.zret (v := 1) hx hb hr rfl (fun t ht hW => ⟨_, rfl, (by simp [bothB, bI, c7, c17]), ht⟩) (fun _ h => absurd h List.not_mem_nil) dX1_hasBothValues_25
set_option maxHeartbeats 4000000 in
set_option maxRecDepth 100000 in
theorem c_isWithout (l : Launch) (dC : Nat → ClassId) (dI : Nat → Nat → Nat) (cI cZ cJ : ClassId) (a : Nat → Nat) (v : Nat → Int32) (g : Nat → Nat → Int32) (k : Nat) (mk : Int32) (hk : k < 200) : Met l yX1_isWithout wsX1_isWithout ({ frames := 1, cells := 0, slots := 0, locals := 21 }) (va_Pc [.ref (a 5), .int (nI k), .int mk] (fun U => va_P (dC, dI) clA (wA cI cZ a v g) U.heap ∧ va_K (dC, dI) clA (tyA cI cZ cJ) U)) (vp_Si (fun r => r = bI (woutB g k mk))) 0 0 (fun _ => False) := by
  refine Met.ofW (cc := cX1_isWithout) (maxL := 3) (ret := (some .boolean)) (by decide) rfl ?_
  intro p e s m args below meth c s₁ B hml hv
  obtain ⟨rfl, hP, hK⟩ := hv
  have hx := B.exec
  have hb := B.bytes
  have hr := B.returns
  have hts := atoms_spec (ws := wsX1_isWithout) B.pre
  have hown : s.vm.findClass RX1 = some m.cls := findClass_of_methodNamed B.named
  have hlocks := B.notSynchronized
  have hl := lv_entry ([.ref (a 5), .int (nI k), .int mk]) (n := 3) (Nat.le_of_ble_eq_true rfl)
  rw [lg_entry_eq]
  generalize (lg_sl ([.ref (a 5), .int (nI k), .int mk]) ++ List.replicate (3 - (lg_sl ([.ref (a 5), .int (nI k), .int mk])).length) Slot.unset).toArray = ls at hl ⊢
  have hl : lv_has ls 3 [(0, .ref (a 5)), (1, .int (nI k)), (2, .int mk)] := hl
  refine lv_iload_n hx hb dX1_isWithout_0 rfl (lv_at hl 2 rfl) ?_
  refine lv_iconst (v := (-1)) hx hb dX1_isWithout_1 (by decide) ?_
  refine lv_icmp_eq (tgt := 13) hx hb dX1_isWithout_2 (by decide) (fun c2 => ?_) (fun c2 => ?_)
  · refine lv_iconst (v := 1) hx hb dX1_isWithout_13 (by decide) ?_
    refine lv_goto (tgt := 18) hx hb dX1_isWithout_14 (by decide) ?_
    exact W.zret (v := 1) hx hb hr rfl (fun t ht hW => ⟨_, rfl, (by simp [woutB, bI, c2]), ht⟩) (fun _ h => absurd h List.not_mem_nil) dX1_isWithout_18
  · refine lv_aload_n hx hb dX1_isWithout_5 rfl (lv_at hl 0 rfl) ?_
    refine lv_iload_n hx hb dX1_isWithout_6 rfl (lv_at hl 1 rfl) ?_
    refine vp_callSi (W.runV (As := [.int (nI k)]) (rest := []) ⟨hx, hb, hml, hown, hts⟩ (c_hasBoth l dC dI cI cZ cJ a v g k (by omega)) (cwV 1 hts (gd_V ml_X1_X1_hasBothValues im_X1_hasBothValues se_X1_hasBothValues in_X1 kX1_hasBothValues) rfl rfl rfl (by decide +kernel) ⟨Nat.le_of_ble_eq_true rfl, Nat.le_of_ble_eq_true rfl⟩) ⟨fun _ U g mk q => by obtain ⟨q0, qP, qK⟩ := q; exact ⟨q0, qP, va_K.moved (u := U) (U := U.calling g mk _) (Vm.Alike.refl U.vm) qK⟩, va_recv hK hP (ci := 1) (q0 := 5) rfl rfl, fun U hU hW => ⟨rfl, by rw [hU]; exact hP, va_K.moved hW.alike hK⟩⟩ rfl rfl hl.1 rfl (lv_room (Nat.le_of_ble_eq_true rfl)) dX1_isWithout_7 ⟨Nat.zero_le _, Nat.zero_le _⟩) (fun r7 hr7 => ?_)
    subst hr7
    refine lv_if_ne (tgt := 17) hx hb dX1_isWithout_10 (by decide) (fun c10 => ?_) (fun c10 => ?_)
    · have c10 := bI_n0.mp c10
      refine lv_iconst (v := 0) hx hb dX1_isWithout_17 (by decide) ?_
      exact W.zret (v := 0) hx hb hr rfl (fun t ht hW => ⟨_, rfl, (by simp [woutB, bI, c2, c10]), ht⟩) (fun _ h => absurd h List.not_mem_nil) dX1_isWithout_18
    · have c10 := bI_0.mp c10
      refine lv_iconst (v := 1) hx hb dX1_isWithout_13 (by decide) ?_
      refine lv_goto (tgt := 18) hx hb dX1_isWithout_14 (by decide) ?_
      exact W.zret (v := 1) hx hb hr rfl (fun t ht hW => ⟨_, rfl, (by simp [woutB, bI, c2, c10]), ht⟩) (fun _ h => absurd h List.not_mem_nil) dX1_isWithout_18
set_option maxHeartbeats 4000000 in
set_option maxRecDepth 100000 in
theorem c_isWithin (l : Launch) (dC : Nat → ClassId) (dI : Nat → Nat → Nat) (cI cZ cJ : ClassId) (a : Nat → Nat) (v : Nat → Int32) (g : Nat → Nat → Int32) (k : Nat) (mk : Int32) (hk : k < 200) : Met l yX1_isWithin wsX1_isWithin ({ frames := 2, cells := 0, slots := 0, locals := 43 }) (va_Pc [.ref (a 5), .int (nI k), .int mk] (fun U => va_P (dC, dI) clA (wA cI cZ a v g) U.heap ∧ va_K (dC, dI) clA (tyA cI cZ cJ) U)) (vp_Si (fun r => r = bI (winB g k mk))) 0 0 (fun _ => False) := by
  refine Met.ofW (cc := cX1_isWithin) (maxL := 3) (ret := (some .boolean)) (by decide) rfl ?_
  intro p e s m args below meth c s₁ B hml hv
  obtain ⟨rfl, hP, hK⟩ := hv
  have hx := B.exec
  have hb := B.bytes
  have hr := B.returns
  have hts := atoms_spec (ws := wsX1_isWithin) B.pre
  have hown : s.vm.findClass RX1 = some m.cls := findClass_of_methodNamed B.named
  have hlocks := B.notSynchronized
  have hl := lv_entry ([.ref (a 5), .int (nI k), .int mk]) (n := 3) (Nat.le_of_ble_eq_true rfl)
  rw [lg_entry_eq]
  generalize (lg_sl ([.ref (a 5), .int (nI k), .int mk]) ++ List.replicate (3 - (lg_sl ([.ref (a 5), .int (nI k), .int mk])).length) Slot.unset).toArray = ls at hl ⊢
  have hl : lv_has ls 3 [(0, .ref (a 5)), (1, .int (nI k)), (2, .int mk)] := hl
  refine lv_aload_n hx hb dX1_isWithin_0 rfl (lv_at hl 0 rfl) ?_
  refine lv_iload_n hx hb dX1_isWithin_1 rfl (lv_at hl 1 rfl) ?_
  refine lv_iload_n hx hb dX1_isWithin_2 rfl (lv_at hl 2 rfl) ?_
  refine vp_callSi (W.runV (As := [.int (nI k), .int mk]) (rest := []) ⟨hx, hb, hml, hown, hts⟩ (c_isWithout l dC dI cI cZ cJ a v g k mk (by omega)) (cwV 2 hts (gd_V ml_X1_X1_isWithout im_X1_isWithout se_X1_isWithout in_X1 kX1_isWithout) rfl rfl rfl (by decide +kernel) ⟨Nat.le_of_ble_eq_true rfl, Nat.le_of_ble_eq_true rfl⟩) ⟨fun _ U g mk q => by obtain ⟨q0, qP, qK⟩ := q; exact ⟨q0, qP, va_K.moved (u := U) (U := U.calling g mk _) (Vm.Alike.refl U.vm) qK⟩, va_recv hK hP (ci := 1) (q0 := 5) rfl rfl, fun U hU hW => ⟨rfl, by rw [hU]; exact hP, va_K.moved hW.alike hK⟩⟩ rfl rfl hl.1 rfl (lv_room (Nat.le_of_ble_eq_true rfl)) dX1_isWithin_3 ⟨Nat.zero_le _, Nat.zero_le _⟩) (fun r3 hr3 => ?_)
  subst hr3
  refine lv_if_ne (tgt := 30) hx hb dX1_isWithin_6 (by decide) (fun c6 => ?_) (fun c6 => ?_)
  · have c6 := bI_n0.mp c6
    refine lv_iconst (v := 0) hx hb dX1_isWithin_30 (by decide) ?_
    exact W.zret (v := 0) hx hb hr rfl (fun t ht hW => ⟨_, rfl, (by simp [winB, bI, c6]), ht⟩) (fun _ h => absurd h List.not_mem_nil) dX1_isWithin_31
  · have c6 := bI_0.mp c6
    refine lv_aload_n hx hb dX1_isWithin_9 rfl (lv_at hl 0 rfl) ?_
    refine va_get (D := (dC, dI)) (ci := 1) (v := .ref (a 12)) (C := RX1) (T := TX1) (N := 10) hx hb hts (fun w h => List.mem_cons_of_mem _ (iw_X1 w h)) hown hK hP 5 rfl rfl 6 (by decide) (hts _ (List.mem_cons_of_mem _ fl_X1_turnOuts)) (fun _ h9 => h9) rfl dX1_isWithin_10 ?_
    refine lv_iload_n hx hb dX1_isWithin_13 rfl (lv_at hl 1 rfl) ?_
    refine wi_ald hx hb hK hP 12 0 rfl rfl (k := k) (by omega) (by decide) dX1_isWithin_14 ?_
    refine lv_aload_n hx hb dX1_isWithin_15 rfl (lv_at hl 0 rfl) ?_
    refine va_get (D := (dC, dI)) (ci := 1) (v := .ref (a 13)) (C := RX1) (T := TX1) (N := 10) hx hb hts (fun w h => List.mem_cons_of_mem _ (iw_X1 w h)) hown hK hP 5 rfl rfl 7 (by decide) (hts _ (List.mem_cons_of_mem _ fl_X1_travels)) (fun _ h9 => h9) rfl dX1_isWithin_16 ?_
    refine lv_iload_n hx hb dX1_isWithin_19 rfl (lv_at hl 1 rfl) ?_
    refine wi_ald hx hb hK hP 13 0 rfl rfl (k := k) (by omega) (by decide) dX1_isWithin_20 ?_
    refine lv_iadd hx hb dX1_isWithin_21 ?_
    refine lv_iload_n hx hb dX1_isWithin_22 rfl (lv_at hl 2 rfl) ?_
    refine lv_icmp_gt (tgt := 30) hx hb dX1_isWithin_23 (by decide) (fun c23 => ?_) (fun c23 => ?_)
    · have n23 := Int32.not_le.mpr c23
      refine lv_iconst (v := 0) hx hb dX1_isWithin_30 (by decide) ?_
      exact W.zret (v := 0) hx hb hr rfl (fun t ht hW => ⟨_, rfl, (by simp [winB, bI, c6, c23, n23]), ht⟩) (fun _ h => absurd h List.not_mem_nil) dX1_isWithin_31
    · have n23 := Int32.not_lt.mp c23
      refine lv_iconst (v := 1) hx hb dX1_isWithin_26 (by decide) ?_
      refine lv_goto (tgt := 31) hx hb dX1_isWithin_27 (by decide) ?_
      exact W.zret (v := 1) hx hb hr rfl (fun t ht hW => ⟨_, rfl, (by simp [winB, bI, c6, c23, n23]), ht⟩) (fun _ h => absurd h List.not_mem_nil) dX1_isWithin_31
set_option maxHeartbeats 4000000 in
set_option maxRecDepth 100000 in
theorem c_isAsked (l : Launch) (dC : Nat → ClassId) (dI : Nat → Nat → Nat) (cI cZ cJ : ClassId) (a : Nat → Nat) (v : Nat → Int32) (g : Nat → Nat → Int32) (k : Nat) (f t kd ar : Int32) (hk : k < 200) : Met l yX1_isAsked wsX1_isAsked ({ frames := 1, cells := 0, slots := 0, locals := 23 }) (va_Pc [.ref (a 5), .int (nI k), .int f, .int t, .int kd, .int ar] (fun U => va_P (dC, dI) clA (wA cI cZ a v g) U.heap ∧ va_K (dC, dI) clA (tyA cI cZ cJ) U)) (vp_Si (fun r => r = bI (askB g k f t kd ar))) 0 0 (fun _ => False) := by
  refine Met.ofW (cc := cX1_isAsked) (maxL := 6) (ret := (some .boolean)) (by decide) rfl ?_
  intro p e s m args below meth c s₁ B hml hv
  obtain ⟨rfl, hP, hK⟩ := hv
  have hx := B.exec
  have hb := B.bytes
  have hr := B.returns
  have hts := atoms_spec (ws := wsX1_isAsked) B.pre
  have hown : s.vm.findClass RX1 = some m.cls := findClass_of_methodNamed B.named
  have hlocks := B.notSynchronized
  have hl := lv_entry ([.ref (a 5), .int (nI k), .int f, .int t, .int kd, .int ar]) (n := 6) (Nat.le_of_ble_eq_true rfl)
  rw [lg_entry_eq]
  generalize (lg_sl ([.ref (a 5), .int (nI k), .int f, .int t, .int kd, .int ar]) ++ List.replicate (6 - (lg_sl ([.ref (a 5), .int (nI k), .int f, .int t, .int kd, .int ar])).length) Slot.unset).toArray = ls at hl ⊢
  have hl : lv_has ls 6 [(0, .ref (a 5)), (1, .int (nI k)), (2, .int f), (3, .int t), (4, .int kd), (5, .int ar)] := hl
  refine lv_aload_n hx hb dX1_isAsked_0 rfl (lv_at hl 0 rfl) ?_
  refine lv_iload_n hx hb dX1_isAsked_1 rfl (lv_at hl 1 rfl) ?_
  refine vp_callSi (W.runV (As := [.int (nI k)]) (rest := []) ⟨hx, hb, hml, hown, hts⟩ (c_isHidden l dC dI cI cZ cJ a v g k (by omega)) (cwV 1 hts (gd_V ml_X1_X1_isHidden im_X1_isHidden se_X1_isHidden in_X1 kX1_isHidden) rfl rfl rfl (by decide +kernel) ⟨Nat.le_of_ble_eq_true rfl, Nat.le_of_ble_eq_true rfl⟩) ⟨fun _ U g mk q => by obtain ⟨q0, qP, qK⟩ := q; exact ⟨q0, qP, va_K.moved (u := U) (U := U.calling g mk _) (Vm.Alike.refl U.vm) qK⟩, va_recv hK hP (ci := 1) (q0 := 5) rfl rfl, fun U hU hW => ⟨rfl, by rw [hU]; exact hP, va_K.moved hW.alike hK⟩⟩ rfl rfl hl.1 rfl (lv_room (Nat.le_of_ble_eq_true rfl)) dX1_isAsked_2 ⟨Nat.zero_le _, Nat.zero_le _⟩) (fun r2 hr2 => ?_)
  subst hr2
  refine lv_if_ne (tgt := 56) hx hb dX1_isAsked_5 (by decide) (fun c5 => ?_) (fun c5 => ?_)
  · have c5 := bI_n0.mp c5
    refine lv_iconst (v := 0) hx hb dX1_isAsked_56 (by decide) ?_
    exact W.zret (v := 0) hx hb hr rfl (fun t ht hW => ⟨_, rfl, (by simp [askB, bI, c5]), ht⟩) (fun _ h => absurd h List.not_mem_nil) dX1_isAsked_57
  · have c5 := bI_0.mp c5
    refine lv_aload_n hx hb dX1_isAsked_8 rfl (lv_at hl 0 rfl) ?_
    refine lv_iload_n hx hb dX1_isAsked_9 rfl (lv_at hl 1 rfl) ?_
    refine lv_iload_n hx hb dX1_isAsked_10 rfl (lv_at hl 2 rfl) ?_
    refine lv_iload_n hx hb dX1_isAsked_11 rfl (lv_at hl 3 rfl) ?_
    refine vp_callSi (W.runV (As := [.int (nI k), .int f, .int t]) (rest := []) ⟨hx, hb, hml, hown, hts⟩ (c_isInSpan l dC dI cI cZ cJ a v g k f t (by omega)) (cwV 3 hts (gd_V ml_X1_X1_isInSpan im_X1_isInSpan se_X1_isInSpan in_X1 kX1_isInSpan) rfl rfl rfl (by decide +kernel) ⟨Nat.le_of_ble_eq_true rfl, Nat.le_of_ble_eq_true rfl⟩) ⟨fun _ U g mk q => by obtain ⟨q0, qP, qK⟩ := q; exact ⟨q0, qP, va_K.moved (u := U) (U := U.calling g mk _) (Vm.Alike.refl U.vm) qK⟩, va_recv hK hP (ci := 1) (q0 := 5) rfl rfl, fun U hU hW => ⟨rfl, by rw [hU]; exact hP, va_K.moved hW.alike hK⟩⟩ rfl rfl hl.1 rfl (lv_room (Nat.le_of_ble_eq_true rfl)) dX1_isAsked_12 ⟨Nat.zero_le _, Nat.zero_le _⟩) (fun r12 hr12 => ?_)
    subst hr12
    refine lv_if_eq (tgt := 56) hx hb dX1_isAsked_15 (by decide) (fun c15 => ?_) (fun c15 => ?_)
    · have c15 := bI_0.mp c15
      refine lv_iconst (v := 0) hx hb dX1_isAsked_56 (by decide) ?_
      exact W.zret (v := 0) hx hb hr rfl (fun t ht hW => ⟨_, rfl, (by simp [askB, bI, c5, c15]), ht⟩) (fun _ h => absurd h List.not_mem_nil) dX1_isAsked_57
    · have c15 := bI_n0.mp c15
      refine lv_iload hx hb dX1_isAsked_18 (lv_at hl 4 rfl) ?_
      refine lv_iconst (v := (-1)) hx hb dX1_isAsked_20 (by decide) ?_
      refine lv_icmp_eq (tgt := 35) hx hb dX1_isAsked_21 (by decide) (fun c21 => ?_) (fun c21 => ?_)
      · refine lv_iload hx hb dX1_isAsked_35 (lv_at hl 5 rfl) ?_
        refine lv_iconst (v := (-1)) hx hb dX1_isAsked_37 (by decide) ?_
        refine lv_icmp_eq (tgt := 52) hx hb dX1_isAsked_38 (by decide) (fun c38 => ?_) (fun c38 => ?_)
        · refine lv_iconst (v := 1) hx hb dX1_isAsked_52 (by decide) ?_
          refine lv_goto (tgt := 57) hx hb dX1_isAsked_53 (by decide) ?_
          exact W.zret (v := 1) hx hb hr rfl (fun t ht hW => ⟨_, rfl, (by simp [askB, bI, c5, c15, c21, c38]), ht⟩) (fun _ h => absurd h List.not_mem_nil) dX1_isAsked_57
        · refine lv_aload_n hx hb dX1_isAsked_41 rfl (lv_at hl 0 rfl) ?_
          refine va_get (D := (dC, dI)) (ci := 1) (v := .ref (a 9)) (C := RX1) (T := TX1) (N := 10) hx hb hts (fun w h => List.mem_cons_of_mem _ (iw_X1 w h)) hown hK hP 5 rfl rfl 3 (by decide) (hts _ (List.mem_cons_of_mem _ fl_X1_areas)) (fun _ h9 => h9) rfl dX1_isAsked_42 ?_
          refine lv_iload_n hx hb dX1_isAsked_45 rfl (lv_at hl 1 rfl) ?_
          refine wi_ald hx hb hK hP 9 0 rfl rfl (k := k) (by omega) (by decide) dX1_isAsked_46 ?_
          refine lv_iload hx hb dX1_isAsked_47 (lv_at hl 5 rfl) ?_
          refine lv_icmp_ne (tgt := 56) hx hb dX1_isAsked_49 (by decide) (fun c49 => ?_) (fun c49 => ?_)
          · refine lv_iconst (v := 0) hx hb dX1_isAsked_56 (by decide) ?_
            exact W.zret (v := 0) hx hb hr rfl (fun t ht hW => ⟨_, rfl, (by simp [askB, bI, c5, c15, c21, c38, c49]), ht⟩) (fun _ h => absurd h List.not_mem_nil) dX1_isAsked_57
          · refine lv_iconst (v := 1) hx hb dX1_isAsked_52 (by decide) ?_
            refine lv_goto (tgt := 57) hx hb dX1_isAsked_53 (by decide) ?_
            exact W.zret (v := 1) hx hb hr rfl (fun t ht hW => ⟨_, rfl, (by simp [askB, bI, c5, c15, c21, c38, c49]), ht⟩) (fun _ h => absurd h List.not_mem_nil) dX1_isAsked_57
      · refine lv_aload_n hx hb dX1_isAsked_24 rfl (lv_at hl 0 rfl) ?_
        refine va_get (D := (dC, dI)) (ci := 1) (v := .ref (a 8)) (C := RX1) (T := TX1) (N := 10) hx hb hts (fun w h => List.mem_cons_of_mem _ (iw_X1 w h)) hown hK hP 5 rfl rfl 2 (by decide) (hts _ (List.mem_cons_of_mem _ fl_X1_kinds)) (fun _ h9 => h9) rfl dX1_isAsked_25 ?_
        refine lv_iload_n hx hb dX1_isAsked_28 rfl (lv_at hl 1 rfl) ?_
        refine wi_ald hx hb hK hP 8 0 rfl rfl (k := k) (by omega) (by decide) dX1_isAsked_29 ?_
        refine lv_iload hx hb dX1_isAsked_30 (lv_at hl 4 rfl) ?_
        refine lv_icmp_ne (tgt := 56) hx hb dX1_isAsked_32 (by decide) (fun c32 => ?_) (fun c32 => ?_)
        · refine lv_iconst (v := 0) hx hb dX1_isAsked_56 (by decide) ?_
          exact W.zret (v := 0) hx hb hr rfl (fun t ht hW => ⟨_, rfl, (by simp [askB, bI, c5, c15, c21, c32]), ht⟩) (fun _ h => absurd h List.not_mem_nil) dX1_isAsked_57
        · refine lv_iload hx hb dX1_isAsked_35 (lv_at hl 5 rfl) ?_
          refine lv_iconst (v := (-1)) hx hb dX1_isAsked_37 (by decide) ?_
          refine lv_icmp_eq (tgt := 52) hx hb dX1_isAsked_38 (by decide) (fun c38 => ?_) (fun c38 => ?_)
          · refine lv_iconst (v := 1) hx hb dX1_isAsked_52 (by decide) ?_
            refine lv_goto (tgt := 57) hx hb dX1_isAsked_53 (by decide) ?_
            exact W.zret (v := 1) hx hb hr rfl (fun t ht hW => ⟨_, rfl, (by simp [askB, bI, c5, c15, c21, c32, c38]), ht⟩) (fun _ h => absurd h List.not_mem_nil) dX1_isAsked_57
          · refine lv_aload_n hx hb dX1_isAsked_41 rfl (lv_at hl 0 rfl) ?_
            refine va_get (D := (dC, dI)) (ci := 1) (v := .ref (a 9)) (C := RX1) (T := TX1) (N := 10) hx hb hts (fun w h => List.mem_cons_of_mem _ (iw_X1 w h)) hown hK hP 5 rfl rfl 3 (by decide) (hts _ (List.mem_cons_of_mem _ fl_X1_areas)) (fun _ h9 => h9) rfl dX1_isAsked_42 ?_
            refine lv_iload_n hx hb dX1_isAsked_45 rfl (lv_at hl 1 rfl) ?_
            refine wi_ald hx hb hK hP 9 0 rfl rfl (k := k) (by omega) (by decide) dX1_isAsked_46 ?_
            refine lv_iload hx hb dX1_isAsked_47 (lv_at hl 5 rfl) ?_
            refine lv_icmp_ne (tgt := 56) hx hb dX1_isAsked_49 (by decide) (fun c49 => ?_) (fun c49 => ?_)
            · refine lv_iconst (v := 0) hx hb dX1_isAsked_56 (by decide) ?_
              exact W.zret (v := 0) hx hb hr rfl (fun t ht hW => ⟨_, rfl, (by simp [askB, bI, c5, c15, c21, c32, c38, c49]), ht⟩) (fun _ h => absurd h List.not_mem_nil) dX1_isAsked_57
            · refine lv_iconst (v := 1) hx hb dX1_isAsked_52 (by decide) ?_
              refine lv_goto (tgt := 57) hx hb dX1_isAsked_53 (by decide) ?_
              exact W.zret (v := 1) hx hb hr rfl (fun t ht hW => ⟨_, rfl, (by simp [askB, bI, c5, c15, c21, c32, c38, c49]), ht⟩) (fun _ h => absurd h List.not_mem_nil) dX1_isAsked_57
set_option maxHeartbeats 4000000 in
set_option maxRecDepth 100000 in
theorem c_isWork (l : Launch) (dC : Nat → ClassId) (dI : Nat → Nat → Nat) (cI cZ cJ : ClassId) (a : Nat → Nat) (v : Nat → Int32) (g : Nat → Nat → Int32) (k : Nat) (st f t : Int32) (hk : k < 200) : Met l yX1_isWork wsX1_isWork ({ frames := 2, cells := 0, slots := 0, locals := 48 }) (va_Pc [.ref (a 5), .int (nI k), .int st, .int f, .int t] (fun U => va_P (dC, dI) clA (wA cI cZ a v g) U.heap ∧ va_K (dC, dI) clA (tyA cI cZ cJ) U)) (vp_Si (fun r => r = bI (workB g k st f t))) 0 0 (fun _ => False) := by
  refine Met.ofW (cc := cX1_isWork) (maxL := 5) (ret := (some .boolean)) (by decide) rfl ?_
  intro p e s m args below meth c s₁ B hml hv
  obtain ⟨rfl, hP, hK⟩ := hv
  have hx := B.exec
  have hb := B.bytes
  have hr := B.returns
  have hts := atoms_spec (ws := wsX1_isWork) B.pre
  have hown : s.vm.findClass RX1 = some m.cls := findClass_of_methodNamed B.named
  have hlocks := B.notSynchronized
  have hl := lv_entry ([.ref (a 5), .int (nI k), .int st, .int f, .int t]) (n := 5) (Nat.le_of_ble_eq_true rfl)
  rw [lg_entry_eq]
  generalize (lg_sl ([.ref (a 5), .int (nI k), .int st, .int f, .int t]) ++ List.replicate (5 - (lg_sl ([.ref (a 5), .int (nI k), .int st, .int f, .int t])).length) Slot.unset).toArray = ls at hl ⊢
  have hl : lv_has ls 5 [(0, .ref (a 5)), (1, .int (nI k)), (2, .int st), (3, .int f), (4, .int t)] := hl
  refine lv_aload_n hx hb dX1_isWork_0 rfl (lv_at hl 0 rfl) ?_
  refine va_get (D := (dC, dI)) (ci := 1) (v := .ref (a 10)) (C := RX1) (T := TX1) (N := 10) hx hb hts (fun w h => List.mem_cons_of_mem _ (iw_X1 w h)) hown hK hP 5 rfl rfl 4 (by decide) (hts _ (List.mem_cons_of_mem _ fl_X1_stations)) (fun _ h9 => h9) rfl dX1_isWork_1 ?_
  refine lv_iload_n hx hb dX1_isWork_4 rfl (lv_at hl 1 rfl) ?_
  refine wi_ald hx hb hK hP 10 0 rfl rfl (k := k) (by omega) (by decide) dX1_isWork_5 ?_
  refine lv_iload_n hx hb dX1_isWork_6 rfl (lv_at hl 2 rfl) ?_
  refine lv_icmp_ne (tgt := 27) hx hb dX1_isWork_7 (by decide) (fun c7 => ?_) (fun c7 => ?_)
  · refine lv_iconst (v := 0) hx hb dX1_isWork_27 (by decide) ?_
    exact W.zret (v := 0) hx hb hr rfl (fun t ht hW => ⟨_, rfl, (by simp [workB, bI, c7]), ht⟩) (fun _ h => absurd h List.not_mem_nil) dX1_isWork_28
  · refine lv_aload_n hx hb dX1_isWork_10 rfl (lv_at hl 0 rfl) ?_
    refine lv_iload_n hx hb dX1_isWork_11 rfl (lv_at hl 1 rfl) ?_
    refine lv_iload_n hx hb dX1_isWork_12 rfl (lv_at hl 3 rfl) ?_
    refine lv_iload hx hb dX1_isWork_13 (lv_at hl 4 rfl) ?_
    refine lv_iconst (v := (-1)) hx hb dX1_isWork_15 (by decide) ?_
    refine lv_iconst (v := (-1)) hx hb dX1_isWork_16 (by decide) ?_
    refine vp_callSi (W.runV (As := [.int (nI k), .int f, .int t, .int (-1), .int (-1)]) (rest := []) ⟨hx, hb, hml, hown, hts⟩ (c_isAsked l dC dI cI cZ cJ a v g k f t (-1) (-1) (by omega)) (cwV 5 hts (gd_V ml_X1_X1_isAsked im_X1_isAsked se_X1_isAsked in_X1 kX1_isAsked) rfl rfl rfl (by decide +kernel) ⟨Nat.le_of_ble_eq_true rfl, Nat.le_of_ble_eq_true rfl⟩) ⟨fun _ U g mk q => by obtain ⟨q0, qP, qK⟩ := q; exact ⟨q0, qP, va_K.moved (u := U) (U := U.calling g mk _) (Vm.Alike.refl U.vm) qK⟩, va_recv hK hP (ci := 1) (q0 := 5) rfl rfl, fun U hU hW => ⟨rfl, by rw [hU]; exact hP, va_K.moved hW.alike hK⟩⟩ rfl rfl hl.1 rfl (lv_room (Nat.le_of_ble_eq_true rfl)) dX1_isWork_17 ⟨Nat.zero_le _, Nat.zero_le _⟩) (fun r17 hr17 => ?_)
    subst hr17
    refine lv_if_eq (tgt := 27) hx hb dX1_isWork_20 (by decide) (fun c20 => ?_) (fun c20 => ?_)
    · have c20 := bI_0.mp c20
      refine lv_iconst (v := 0) hx hb dX1_isWork_27 (by decide) ?_
      exact W.zret (v := 0) hx hb hr rfl (fun t ht hW => ⟨_, rfl, (by simp [workB, bI, c7, c20]), ht⟩) (fun _ h => absurd h List.not_mem_nil) dX1_isWork_28
    · have c20 := bI_n0.mp c20
      refine lv_iconst (v := 1) hx hb dX1_isWork_23 (by decide) ?_
      refine lv_goto (tgt := 28) hx hb dX1_isWork_24 (by decide) ?_
      exact W.zret (v := 1) hx hb hr rfl (fun t ht hW => ⟨_, rfl, (by simp [workB, bI, c7, c20]), ht⟩) (fun _ h => absurd h List.not_mem_nil) dX1_isWork_28
set_option maxHeartbeats 4000000 in
set_option maxRecDepth 100000 in
theorem c_number (l : Launch) (dC : Nat → ClassId) (dI : Nat → Nat → Nat) (cI cZ cJ : ClassId) (a : Nat → Nat) (v : Nat → Int32) (g : Nat → Nat → Int32)  (n : Nat) (hn : v 5 = nI n) (hn2 : n ≤ 200) (f t kd ar : Int32) : Met l yX1_number wsX1_number ({ frames := 2, cells := 0, slots := 0, locals := 48 }) (va_Pc [.ref (a 5), .int f, .int t, .int kd, .int ar] (fun U => va_P (dC, dI) clA (wA cI cZ a v g) U.heap ∧ va_K (dC, dI) clA (tyA cI cZ cJ) U)) (vp_Si (fun r => r = cnt (fun i => askB g i f t kd ar) n)) 0 0 (fun _ => False) := by
  refine Met.ofW (cc := cX1_number) (maxL := 7) (ret := (some .int)) (by decide) rfl ?_
  intro p e s m args below meth c s₁ B hml hv
  obtain ⟨rfl, hP, hK⟩ := hv
  have hx := B.exec
  have hb := B.bytes
  have hr := B.returns
  have hts := atoms_spec (ws := wsX1_number) B.pre
  have hown : s.vm.findClass RX1 = some m.cls := findClass_of_methodNamed B.named
  have hlocks := B.notSynchronized
  have hl := lv_entry ([.ref (a 5), .int f, .int t, .int kd, .int ar]) (n := 7) (Nat.le_of_ble_eq_true rfl)
  rw [lg_entry_eq]
  generalize (lg_sl ([.ref (a 5), .int f, .int t, .int kd, .int ar]) ++ List.replicate (7 - (lg_sl ([.ref (a 5), .int f, .int t, .int kd, .int ar])).length) Slot.unset).toArray = ls at hl ⊢
  have hl : lv_has ls 7 [(0, .ref (a 5)), (1, .int f), (2, .int t), (3, .int kd), (4, .int ar)] := hl
  refine lv_iconst (v := 0) hx hb dX1_number_0 (by decide) ?_
  refine lv_istore (lv' := [(5, .int 0), (0, .ref (a 5)), (1, .int f), (2, .int t), (3, .int kd), (4, .int ar)]) hx hb dX1_number_1 hl (by decide) rfl (fun ls hl => ?_)
  refine lv_iconst (v := 0) hx hb dX1_number_3 (by decide) ?_
  refine lv_istore (lv' := [(6, .int 0), (5, .int 0), (0, .ref (a 5)), (1, .int f), (2, .int t), (3, .int kd), (4, .int ar)]) hx hb dX1_number_4 hl (by decide) rfl (fun ls hl => ?_)
  have lp : ∀ (d k : Nat), 0 ≤ k → k ≤ n → n + 1 ≤ k + d → ∀ (acc : Int32), acc = cnt (fun i => askB g i f t kd ar) k → ∀ (ls : Array Slot), lv_has ls 7 [(6, .int (nI k)), (5, .int acc), (0, .ref (a 5)), (1, .int f), (2, .int t), (3, .int kd), (4, .int ar)] → W p l e (headSpec wsX1_number ({ frames := 2, cells := 0, slots := 0, locals := 48 })).room s m ([.ref (a 5), .int f, .int t, .int kd, .int ar] : List Value).toArray below meth c s.heap [] 0 0 (MQ below (vp_Si (fun r => r = cnt (fun i => askB g i f t kd ar) n)) ([.ref (a 5), .int f, .int t, .int kd, .int ar] : List Value).toArray s 0 0 (fun _ => False)) (F0 m 6 ls []) := by
    intro d
    induction d with
    | zero => intro k h0 h1 h2; exact absurd h2 (by omega)
    | succ d ih =>
      intro k hk0 hkn hkd acc ea_acc ls hl
      subst ea_acc
      refine lv_iload hx hb dX1_number_6 (lv_at hl 0 rfl) ?_
      refine lv_aload_n hx hb dX1_number_8 rfl (lv_at hl 2 rfl) ?_
      refine va_get (D := (dC, dI)) (ci := 1) (v := .int (v 5)) (C := RX1) (T := TX1) (N := 10) hx hb hts (fun w h => List.mem_cons_of_mem _ (iw_X1 w h)) hown hK hP 5 rfl rfl 9 (by decide) (hts _ (List.mem_cons_of_mem _ fl_X1_size)) (fun _ h9 => h9) rfl dX1_number_9 ?_
      refine lv_icmp_ge (tgt := 38) hx hb dX1_number_12 (by decide) (fun c12 => ?_) (fun c12 => ?_)
      · have n12 := Int32.not_lt.mpr c12
        rw [hn] at c12
        have hkn2 : k = n := Nat.le_antisymm hkn ((nI_leI (by omega) (by omega)).mp c12)
        refine lv_iload hx hb dX1_number_38 (lv_at hl 1 rfl) ?_
        exact W.iret (v := cnt (fun i => askB g i f t kd ar) k) hx hb hr (fun t ht hW => ⟨_, rfl, (by subst hkn2; rfl), ht⟩) (fun _ h => absurd h List.not_mem_nil) dX1_number_40
      · have n12 := Int32.not_le.mp c12
        rw [hn] at c12
        have hk : k < n := Nat.lt_of_not_le (fun h => c12 (nI_le h (by omega)))
        refine lv_aload_n hx hb dX1_number_15 rfl (lv_at hl 2 rfl) ?_
        refine lv_iload hx hb dX1_number_16 (lv_at hl 0 rfl) ?_
        refine lv_iload_n hx hb dX1_number_18 rfl (lv_at hl 3 rfl) ?_
        refine lv_iload_n hx hb dX1_number_19 rfl (lv_at hl 4 rfl) ?_
        refine lv_iload_n hx hb dX1_number_20 rfl (lv_at hl 5 rfl) ?_
        refine lv_iload hx hb dX1_number_21 (lv_at hl 6 rfl) ?_
        refine vp_callSi (W.runV (As := [.int (nI k), .int f, .int t, .int kd, .int ar]) (rest := []) ⟨hx, hb, hml, hown, hts⟩ (c_isAsked l dC dI cI cZ cJ a v g k f t kd ar (by omega)) (cwV 5 hts (gd_V ml_X1_X1_isAsked im_X1_isAsked se_X1_isAsked in_X1 kX1_isAsked) rfl rfl rfl (by decide +kernel) ⟨Nat.le_of_ble_eq_true rfl, Nat.le_of_ble_eq_true rfl⟩) ⟨fun _ U g mk q => by obtain ⟨q0, qP, qK⟩ := q; exact ⟨q0, qP, va_K.moved (u := U) (U := U.calling g mk _) (Vm.Alike.refl U.vm) qK⟩, va_recv hK hP (ci := 1) (q0 := 5) rfl rfl, fun U hU hW => ⟨rfl, by rw [hU]; exact hP, va_K.moved hW.alike hK⟩⟩ rfl rfl hl.1 rfl (lv_room (Nat.le_of_ble_eq_true rfl)) dX1_number_23 ⟨Nat.zero_le _, Nat.zero_le _⟩) (fun r23 hr23 => ?_)
        subst hr23
        refine lv_if_eq (tgt := 32) hx hb dX1_number_26 (by decide) (fun c26 => ?_) (fun c26 => ?_)
        · have c26 := bI_0.mp c26
          refine lv_iinc (v := nI (k + 1)) (lv' := [(6, .int (nI (k + 1))), (5, .int (cnt (fun i => askB g i f t kd ar) k)), (0, .ref (a 5)), (1, .int f), (2, .int t), (3, .int kd), (4, .int ar)]) hx hb dX1_number_32 hl (k := 0) rfl (nI_1 k) (by decide) rfl (fun ls hl => ?_)
          refine lv_goto (tgt := 6) hx hb dX1_number_35 (by decide) ?_
          exact ih (k + 1) (by omega) (by omega) (by omega) _ (by simp [cnt_s, bI, c12, n12, c26]) ls (lv_sub hl [0, 1, 2, 3, 4, 5, 6] rfl)
        · have c26 := bI_n0.mp c26
          refine lv_iinc (v := (cnt (fun i => askB g i f t kd ar) k) + 1) (lv' := [(5, .int ((cnt (fun i => askB g i f t kd ar) k) + 1)), (6, .int (nI k)), (0, .ref (a 5)), (1, .int f), (2, .int t), (3, .int kd), (4, .int ar)]) hx hb dX1_number_29 hl (k := 1) rfl rfl (by decide) rfl (fun ls hl => ?_)
          refine lv_iinc (v := nI (k + 1)) (lv' := [(6, .int (nI (k + 1))), (5, .int ((cnt (fun i => askB g i f t kd ar) k) + 1)), (0, .ref (a 5)), (1, .int f), (2, .int t), (3, .int kd), (4, .int ar)]) hx hb dX1_number_32 hl (k := 1) rfl (nI_1 k) (by decide) rfl (fun ls hl => ?_)
          refine lv_goto (tgt := 6) hx hb dX1_number_35 (by decide) ?_
          exact ih (k + 1) (by omega) (by omega) (by omega) _ (by simp [cnt_s, bI, c12, n12, c26]) ls (lv_sub hl [0, 1, 2, 3, 4, 5, 6] rfl)
  exact lp (n + 1) 0 (by omega) (by omega) (by omega) _ (rfl) ls (lv_sub hl [0, 1, 2, 3, 4, 5, 6] rfl)
set_option maxHeartbeats 4000000 in
set_option maxRecDepth 100000 in
theorem c_inHour (l : Launch) (dC : Nat → ClassId) (dI : Nat → Nat → Nat) (cI cZ cJ : ClassId) (a : Nat → Nat) (v : Nat → Int32) (g : Nat → Nat → Int32)  (n : Nat) (hn : v 5 = nI n) (hn2 : n ≤ 200) (ho f t kd ar : Int32) : Met l yX1_inHour wsX1_inHour ({ frames := 2, cells := 0, slots := 0, locals := 48 }) (va_Pc [.ref (a 5), .int ho, .int f, .int t, .int kd, .int ar] (fun U => va_P (dC, dI) clA (wA cI cZ a v g) U.heap ∧ va_K (dC, dI) clA (tyA cI cZ cJ) U)) (vp_Si (fun r => r = cnt (fun i => askB g i f t kd ar && decide (g 4 i = ho)) n)) 0 0 (fun _ => False) := by
  refine Met.ofW (cc := cX1_inHour) (maxL := 8) (ret := (some .int)) (by decide) rfl ?_
  intro p e s m args below meth c s₁ B hml hv
  obtain ⟨rfl, hP, hK⟩ := hv
  have hx := B.exec
  have hb := B.bytes
  have hr := B.returns
  have hts := atoms_spec (ws := wsX1_inHour) B.pre
  have hown : s.vm.findClass RX1 = some m.cls := findClass_of_methodNamed B.named
  have hlocks := B.notSynchronized
  have hl := lv_entry ([.ref (a 5), .int ho, .int f, .int t, .int kd, .int ar]) (n := 8) (Nat.le_of_ble_eq_true rfl)
  rw [lg_entry_eq]
  generalize (lg_sl ([.ref (a 5), .int ho, .int f, .int t, .int kd, .int ar]) ++ List.replicate (8 - (lg_sl ([.ref (a 5), .int ho, .int f, .int t, .int kd, .int ar])).length) Slot.unset).toArray = ls at hl ⊢
  have hl : lv_has ls 8 [(0, .ref (a 5)), (1, .int ho), (2, .int f), (3, .int t), (4, .int kd), (5, .int ar)] := hl
  refine lv_iconst (v := 0) hx hb dX1_inHour_0 (by decide) ?_
  refine lv_istore (lv' := [(6, .int 0), (0, .ref (a 5)), (1, .int ho), (2, .int f), (3, .int t), (4, .int kd), (5, .int ar)]) hx hb dX1_inHour_1 hl (by decide) rfl (fun ls hl => ?_)
  refine lv_iconst (v := 0) hx hb dX1_inHour_3 (by decide) ?_
  refine lv_istore (lv' := [(7, .int 0), (6, .int 0), (0, .ref (a 5)), (1, .int ho), (2, .int f), (3, .int t), (4, .int kd), (5, .int ar)]) hx hb dX1_inHour_4 hl (by decide) rfl (fun ls hl => ?_)
  have lp : ∀ (d k : Nat), 0 ≤ k → k ≤ n → n + 1 ≤ k + d → ∀ (acc : Int32), acc = cnt (fun i => askB g i f t kd ar && decide (g 4 i = ho)) k → ∀ (ls : Array Slot), lv_has ls 8 [(7, .int (nI k)), (6, .int acc), (0, .ref (a 5)), (1, .int ho), (2, .int f), (3, .int t), (4, .int kd), (5, .int ar)] → W p l e (headSpec wsX1_inHour ({ frames := 2, cells := 0, slots := 0, locals := 48 })).room s m ([.ref (a 5), .int ho, .int f, .int t, .int kd, .int ar] : List Value).toArray below meth c s.heap [] 0 0 (MQ below (vp_Si (fun r => r = cnt (fun i => askB g i f t kd ar && decide (g 4 i = ho)) n)) ([.ref (a 5), .int ho, .int f, .int t, .int kd, .int ar] : List Value).toArray s 0 0 (fun _ => False)) (F0 m 6 ls []) := by
    intro d
    induction d with
    | zero => intro k h0 h1 h2; exact absurd h2 (by omega)
    | succ d ih =>
      intro k hk0 hkn hkd acc ea_acc ls hl
      subst ea_acc
      refine lv_iload hx hb dX1_inHour_6 (lv_at hl 0 rfl) ?_
      refine lv_aload_n hx hb dX1_inHour_8 rfl (lv_at hl 2 rfl) ?_
      refine va_get (D := (dC, dI)) (ci := 1) (v := .int (v 5)) (C := RX1) (T := TX1) (N := 10) hx hb hts (fun w h => List.mem_cons_of_mem _ (iw_X1 w h)) hown hK hP 5 rfl rfl 9 (by decide) (hts _ (List.mem_cons_of_mem _ fl_X1_size)) (fun _ h9 => h9) rfl dX1_inHour_9 ?_
      refine lv_icmp_ge (tgt := 50) hx hb dX1_inHour_12 (by decide) (fun c12 => ?_) (fun c12 => ?_)
      · have n12 := Int32.not_lt.mpr c12
        rw [hn] at c12
        have hkn2 : k = n := Nat.le_antisymm hkn ((nI_leI (by omega) (by omega)).mp c12)
        refine lv_iload hx hb dX1_inHour_50 (lv_at hl 1 rfl) ?_
        exact W.iret (v := cnt (fun i => askB g i f t kd ar && decide (g 4 i = ho)) k) hx hb hr (fun t ht hW => ⟨_, rfl, (by subst hkn2; rfl), ht⟩) (fun _ h => absurd h List.not_mem_nil) dX1_inHour_52
      · have n12 := Int32.not_le.mp c12
        rw [hn] at c12
        have hk : k < n := Nat.lt_of_not_le (fun h => c12 (nI_le h (by omega)))
        refine lv_aload_n hx hb dX1_inHour_15 rfl (lv_at hl 2 rfl) ?_
        refine lv_iload hx hb dX1_inHour_16 (lv_at hl 0 rfl) ?_
        refine lv_iload_n hx hb dX1_inHour_18 rfl (lv_at hl 4 rfl) ?_
        refine lv_iload_n hx hb dX1_inHour_19 rfl (lv_at hl 5 rfl) ?_
        refine lv_iload hx hb dX1_inHour_20 (lv_at hl 6 rfl) ?_
        refine lv_iload hx hb dX1_inHour_22 (lv_at hl 7 rfl) ?_
        refine vp_callSi (W.runV (As := [.int (nI k), .int f, .int t, .int kd, .int ar]) (rest := []) ⟨hx, hb, hml, hown, hts⟩ (c_isAsked l dC dI cI cZ cJ a v g k f t kd ar (by omega)) (cwV 5 hts (gd_V ml_X1_X1_isAsked im_X1_isAsked se_X1_isAsked in_X1 kX1_isAsked) rfl rfl rfl (by decide +kernel) ⟨Nat.le_of_ble_eq_true rfl, Nat.le_of_ble_eq_true rfl⟩) ⟨fun _ U g mk q => by obtain ⟨q0, qP, qK⟩ := q; exact ⟨q0, qP, va_K.moved (u := U) (U := U.calling g mk _) (Vm.Alike.refl U.vm) qK⟩, va_recv hK hP (ci := 1) (q0 := 5) rfl rfl, fun U hU hW => ⟨rfl, by rw [hU]; exact hP, va_K.moved hW.alike hK⟩⟩ rfl rfl hl.1 rfl (lv_room (Nat.le_of_ble_eq_true rfl)) dX1_inHour_24 ⟨Nat.zero_le _, Nat.zero_le _⟩) (fun r24 hr24 => ?_)
        subst hr24
        refine lv_if_eq (tgt := 44) hx hb dX1_inHour_27 (by decide) (fun c27 => ?_) (fun c27 => ?_)
        · have c27 := bI_0.mp c27
          refine lv_iinc (v := nI (k + 1)) (lv' := [(7, .int (nI (k + 1))), (6, .int (cnt (fun i => askB g i f t kd ar && decide (g 4 i = ho)) k)), (0, .ref (a 5)), (1, .int ho), (2, .int f), (3, .int t), (4, .int kd), (5, .int ar)]) hx hb dX1_inHour_44 hl (k := 0) rfl (nI_1 k) (by decide) rfl (fun ls hl => ?_)
          refine lv_goto (tgt := 6) hx hb dX1_inHour_47 (by decide) ?_
          exact ih (k + 1) (by omega) (by omega) (by omega) _ (by simp [cnt_s, bI, c12, n12, c27]) ls (lv_sub hl [0, 1, 2, 3, 4, 5, 6, 7] rfl)
        · have c27 := bI_n0.mp c27
          refine lv_aload_n hx hb dX1_inHour_30 rfl (lv_at hl 2 rfl) ?_
          refine va_get (D := (dC, dI)) (ci := 1) (v := .ref (a 7)) (C := RX1) (T := TX1) (N := 10) hx hb hts (fun w h => List.mem_cons_of_mem _ (iw_X1 w h)) hown hK hP 5 rfl rfl 1 (by decide) (hts _ (List.mem_cons_of_mem _ fl_X1_hours)) (fun _ h9 => h9) rfl dX1_inHour_31 ?_
          refine lv_iload hx hb dX1_inHour_34 (lv_at hl 0 rfl) ?_
          refine wi_ald hx hb hK hP 7 0 rfl rfl (k := k) (by omega) (by decide) dX1_inHour_36 ?_
          refine lv_iload_n hx hb dX1_inHour_37 rfl (lv_at hl 3 rfl) ?_
          refine lv_icmp_ne (tgt := 44) hx hb dX1_inHour_38 (by decide) (fun c38 => ?_) (fun c38 => ?_)
          · refine lv_iinc (v := nI (k + 1)) (lv' := [(7, .int (nI (k + 1))), (6, .int (cnt (fun i => askB g i f t kd ar && decide (g 4 i = ho)) k)), (0, .ref (a 5)), (1, .int ho), (2, .int f), (3, .int t), (4, .int kd), (5, .int ar)]) hx hb dX1_inHour_44 hl (k := 0) rfl (nI_1 k) (by decide) rfl (fun ls hl => ?_)
            refine lv_goto (tgt := 6) hx hb dX1_inHour_47 (by decide) ?_
            exact ih (k + 1) (by omega) (by omega) (by omega) _ (by simp [cnt_s, bI, c12, n12, c27, c38]) ls (lv_sub hl [0, 1, 2, 3, 4, 5, 6, 7] rfl)
          · refine lv_iinc (v := (cnt (fun i => askB g i f t kd ar && decide (g 4 i = ho)) k) + 1) (lv' := [(6, .int ((cnt (fun i => askB g i f t kd ar && decide (g 4 i = ho)) k) + 1)), (7, .int (nI k)), (0, .ref (a 5)), (1, .int ho), (2, .int f), (3, .int t), (4, .int kd), (5, .int ar)]) hx hb dX1_inHour_41 hl (k := 1) rfl rfl (by decide) rfl (fun ls hl => ?_)
            refine lv_iinc (v := nI (k + 1)) (lv' := [(7, .int (nI (k + 1))), (6, .int ((cnt (fun i => askB g i f t kd ar && decide (g 4 i = ho)) k) + 1)), (0, .ref (a 5)), (1, .int ho), (2, .int f), (3, .int t), (4, .int kd), (5, .int ar)]) hx hb dX1_inHour_44 hl (k := 1) rfl (nI_1 k) (by decide) rfl (fun ls hl => ?_)
            refine lv_goto (tgt := 6) hx hb dX1_inHour_47 (by decide) ?_
            exact ih (k + 1) (by omega) (by omega) (by omega) _ (by simp [cnt_s, bI, c12, n12, c27, c38]) ls (lv_sub hl [0, 1, 2, 3, 4, 5, 6, 7] rfl)
  exact lp (n + 1) 0 (by omega) (by omega) (by omega) _ (rfl) ls (lv_sub hl [0, 1, 2, 3, 4, 5, 6, 7] rfl)
set_option maxHeartbeats 4000000 in
set_option maxRecDepth 100000 in
theorem c_hidden (l : Launch) (dC : Nat → ClassId) (dI : Nat → Nat → Nat) (cI cZ cJ : ClassId) (a : Nat → Nat) (v : Nat → Int32) (g : Nat → Nat → Int32)  (n : Nat) (hn : v 5 = nI n) (hn2 : n ≤ 200) (f t : Int32) : Met l yX1_hidden wsX1_hidden ({ frames := 1, cells := 0, slots := 0, locals := 23 }) (va_Pc [.ref (a 5), .int f, .int t] (fun U => va_P (dC, dI) clA (wA cI cZ a v g) U.heap ∧ va_K (dC, dI) clA (tyA cI cZ cJ) U)) (vp_Si (fun r => r = cnt (fun i => hidB g i && spanB g i f t) n)) 0 0 (fun _ => False) := by
  refine Met.ofW (cc := cX1_hidden) (maxL := 5) (ret := (some .int)) (by decide) rfl ?_
  intro p e s m args below meth c s₁ B hml hv
  obtain ⟨rfl, hP, hK⟩ := hv
  have hx := B.exec
  have hb := B.bytes
  have hr := B.returns
  have hts := atoms_spec (ws := wsX1_hidden) B.pre
  have hown : s.vm.findClass RX1 = some m.cls := findClass_of_methodNamed B.named
  have hlocks := B.notSynchronized
  have hl := lv_entry ([.ref (a 5), .int f, .int t]) (n := 5) (Nat.le_of_ble_eq_true rfl)
  rw [lg_entry_eq]
  generalize (lg_sl ([.ref (a 5), .int f, .int t]) ++ List.replicate (5 - (lg_sl ([.ref (a 5), .int f, .int t])).length) Slot.unset).toArray = ls at hl ⊢
  have hl : lv_has ls 5 [(0, .ref (a 5)), (1, .int f), (2, .int t)] := hl
  refine lv_iconst (v := 0) hx hb dX1_hidden_0 (by decide) ?_
  refine lv_istore_n (lv' := [(3, .int 0), (0, .ref (a 5)), (1, .int f), (2, .int t)]) hx hb dX1_hidden_1 rfl hl (by decide) rfl (fun ls hl => ?_)
  refine lv_iconst (v := 0) hx hb dX1_hidden_2 (by decide) ?_
  refine lv_istore (lv' := [(4, .int 0), (3, .int 0), (0, .ref (a 5)), (1, .int f), (2, .int t)]) hx hb dX1_hidden_3 hl (by decide) rfl (fun ls hl => ?_)
  have lp : ∀ (d k : Nat), 0 ≤ k → k ≤ n → n + 1 ≤ k + d → ∀ (acc : Int32), acc = cnt (fun i => hidB g i && spanB g i f t) k → ∀ (ls : Array Slot), lv_has ls 5 [(4, .int (nI k)), (3, .int acc), (0, .ref (a 5)), (1, .int f), (2, .int t)] → W p l e (headSpec wsX1_hidden ({ frames := 1, cells := 0, slots := 0, locals := 23 })).room s m ([.ref (a 5), .int f, .int t] : List Value).toArray below meth c s.heap [] 0 0 (MQ below (vp_Si (fun r => r = cnt (fun i => hidB g i && spanB g i f t) n)) ([.ref (a 5), .int f, .int t] : List Value).toArray s 0 0 (fun _ => False)) (F0 m 5 ls []) := by
    intro d
    induction d with
    | zero => intro k h0 h1 h2; exact absurd h2 (by omega)
    | succ d ih =>
      intro k hk0 hkn hkd acc ea_acc ls hl
      subst ea_acc
      refine lv_iload hx hb dX1_hidden_5 (lv_at hl 0 rfl) ?_
      refine lv_aload_n hx hb dX1_hidden_7 rfl (lv_at hl 2 rfl) ?_
      refine va_get (D := (dC, dI)) (ci := 1) (v := .int (v 5)) (C := RX1) (T := TX1) (N := 10) hx hb hts (fun w h => List.mem_cons_of_mem _ (iw_X1 w h)) hown hK hP 5 rfl rfl 9 (by decide) (hts _ (List.mem_cons_of_mem _ fl_X1_size)) (fun _ h9 => h9) rfl dX1_hidden_8 ?_
      refine lv_icmp_ge (tgt := 43) hx hb dX1_hidden_11 (by decide) (fun c11 => ?_) (fun c11 => ?_)
      · have n11 := Int32.not_lt.mpr c11
        rw [hn] at c11
        have hkn2 : k = n := Nat.le_antisymm hkn ((nI_leI (by omega) (by omega)).mp c11)
        refine lv_iload_n hx hb dX1_hidden_43 rfl (lv_at hl 1 rfl) ?_
        exact W.iret (v := cnt (fun i => hidB g i && spanB g i f t) k) hx hb hr (fun t ht hW => ⟨_, rfl, (by subst hkn2; rfl), ht⟩) (fun _ h => absurd h List.not_mem_nil) dX1_hidden_44
      · have n11 := Int32.not_le.mp c11
        rw [hn] at c11
        have hk : k < n := Nat.lt_of_not_le (fun h => c11 (nI_le h (by omega)))
        refine lv_aload_n hx hb dX1_hidden_14 rfl (lv_at hl 2 rfl) ?_
        refine lv_iload hx hb dX1_hidden_15 (lv_at hl 0 rfl) ?_
        refine vp_callSi (W.runV (As := [.int (nI k)]) (rest := []) ⟨hx, hb, hml, hown, hts⟩ (c_isHidden l dC dI cI cZ cJ a v g k (by omega)) (cwV 1 hts (gd_V ml_X1_X1_isHidden im_X1_isHidden se_X1_isHidden in_X1 kX1_isHidden) rfl rfl rfl (by decide +kernel) ⟨Nat.le_of_ble_eq_true rfl, Nat.le_of_ble_eq_true rfl⟩) ⟨fun _ U g mk q => by obtain ⟨q0, qP, qK⟩ := q; exact ⟨q0, qP, va_K.moved (u := U) (U := U.calling g mk _) (Vm.Alike.refl U.vm) qK⟩, va_recv hK hP (ci := 1) (q0 := 5) rfl rfl, fun U hU hW => ⟨rfl, by rw [hU]; exact hP, va_K.moved hW.alike hK⟩⟩ rfl rfl hl.1 rfl (lv_room (Nat.le_of_ble_eq_true rfl)) dX1_hidden_17 ⟨Nat.zero_le _, Nat.zero_le _⟩) (fun r17 hr17 => ?_)
        subst hr17
        refine lv_if_eq (tgt := 37) hx hb dX1_hidden_20 (by decide) (fun c20 => ?_) (fun c20 => ?_)
        · have c20 := bI_0.mp c20
          refine lv_iinc (v := nI (k + 1)) (lv' := [(4, .int (nI (k + 1))), (3, .int (cnt (fun i => hidB g i && spanB g i f t) k)), (0, .ref (a 5)), (1, .int f), (2, .int t)]) hx hb dX1_hidden_37 hl (k := 0) rfl (nI_1 k) (by decide) rfl (fun ls hl => ?_)
          refine lv_goto (tgt := 5) hx hb dX1_hidden_40 (by decide) ?_
          exact ih (k + 1) (by omega) (by omega) (by omega) _ (by simp [cnt_s, bI, c11, n11, c20]) ls (lv_sub hl [0, 1, 2, 3, 4] rfl)
        · have c20 := bI_n0.mp c20
          refine lv_aload_n hx hb dX1_hidden_23 rfl (lv_at hl 2 rfl) ?_
          refine lv_iload hx hb dX1_hidden_24 (lv_at hl 0 rfl) ?_
          refine lv_iload_n hx hb dX1_hidden_26 rfl (lv_at hl 3 rfl) ?_
          refine lv_iload_n hx hb dX1_hidden_27 rfl (lv_at hl 4 rfl) ?_
          refine vp_callSi (W.runV (As := [.int (nI k), .int f, .int t]) (rest := []) ⟨hx, hb, hml, hown, hts⟩ (c_isInSpan l dC dI cI cZ cJ a v g k f t (by omega)) (cwV 3 hts (gd_V ml_X1_X1_isInSpan im_X1_isInSpan se_X1_isInSpan in_X1 kX1_isInSpan) rfl rfl rfl (by decide +kernel) ⟨Nat.le_of_ble_eq_true rfl, Nat.le_of_ble_eq_true rfl⟩) ⟨fun _ U g mk q => by obtain ⟨q0, qP, qK⟩ := q; exact ⟨q0, qP, va_K.moved (u := U) (U := U.calling g mk _) (Vm.Alike.refl U.vm) qK⟩, va_recv hK hP (ci := 1) (q0 := 5) rfl rfl, fun U hU hW => ⟨rfl, by rw [hU]; exact hP, va_K.moved hW.alike hK⟩⟩ rfl rfl hl.1 rfl (lv_room (Nat.le_of_ble_eq_true rfl)) dX1_hidden_28 ⟨Nat.zero_le _, Nat.zero_le _⟩) (fun r28 hr28 => ?_)
          subst hr28
          refine lv_if_eq (tgt := 37) hx hb dX1_hidden_31 (by decide) (fun c31 => ?_) (fun c31 => ?_)
          · have c31 := bI_0.mp c31
            refine lv_iinc (v := nI (k + 1)) (lv' := [(4, .int (nI (k + 1))), (3, .int (cnt (fun i => hidB g i && spanB g i f t) k)), (0, .ref (a 5)), (1, .int f), (2, .int t)]) hx hb dX1_hidden_37 hl (k := 0) rfl (nI_1 k) (by decide) rfl (fun ls hl => ?_)
            refine lv_goto (tgt := 5) hx hb dX1_hidden_40 (by decide) ?_
            exact ih (k + 1) (by omega) (by omega) (by omega) _ (by simp [cnt_s, bI, c11, n11, c20, c31]) ls (lv_sub hl [0, 1, 2, 3, 4] rfl)
          · have c31 := bI_n0.mp c31
            refine lv_iinc (v := (cnt (fun i => hidB g i && spanB g i f t) k) + 1) (lv' := [(3, .int ((cnt (fun i => hidB g i && spanB g i f t) k) + 1)), (4, .int (nI k)), (0, .ref (a 5)), (1, .int f), (2, .int t)]) hx hb dX1_hidden_34 hl (k := 1) rfl rfl (by decide) rfl (fun ls hl => ?_)
            refine lv_iinc (v := nI (k + 1)) (lv' := [(4, .int (nI (k + 1))), (3, .int ((cnt (fun i => hidB g i && spanB g i f t) k) + 1)), (0, .ref (a 5)), (1, .int f), (2, .int t)]) hx hb dX1_hidden_37 hl (k := 1) rfl (nI_1 k) (by decide) rfl (fun ls hl => ?_)
            refine lv_goto (tgt := 5) hx hb dX1_hidden_40 (by decide) ?_
            exact ih (k + 1) (by omega) (by omega) (by omega) _ (by simp [cnt_s, bI, c11, n11, c20, c31]) ls (lv_sub hl [0, 1, 2, 3, 4] rfl)
  exact lp (n + 1) 0 (by omega) (by omega) (by omega) _ (rfl) ls (lv_sub hl [0, 1, 2, 3, 4] rfl)
set_option maxHeartbeats 4000000 in
set_option maxRecDepth 100000 in
theorem c_ofStation (l : Launch) (dC : Nat → ClassId) (dI : Nat → Nat → Nat) (cI cZ cJ : ClassId) (a : Nat → Nat) (v : Nat → Int32) (g : Nat → Nat → Int32)  (n : Nat) (hn : v 5 = nI n) (hn2 : n ≤ 200) (st f t : Int32) : Met l yX1_ofStation wsX1_ofStation ({ frames := 3, cells := 0, slots := 0, locals := 72 }) (va_Pc [.ref (a 5), .int st, .int f, .int t] (fun U => va_P (dC, dI) clA (wA cI cZ a v g) U.heap ∧ va_K (dC, dI) clA (tyA cI cZ cJ) U)) (vp_Si (fun r => r = cnt (fun i => workB g i st f t) n)) 0 0 (fun _ => False) := by
  refine Met.ofW (cc := cX1_ofStation) (maxL := 6) (ret := (some .int)) (by decide) rfl ?_
  intro p e s m args below meth c s₁ B hml hv
  obtain ⟨rfl, hP, hK⟩ := hv
  have hx := B.exec
  have hb := B.bytes
  have hr := B.returns
  have hts := atoms_spec (ws := wsX1_ofStation) B.pre
  have hown : s.vm.findClass RX1 = some m.cls := findClass_of_methodNamed B.named
  have hlocks := B.notSynchronized
  have hl := lv_entry ([.ref (a 5), .int st, .int f, .int t]) (n := 6) (Nat.le_of_ble_eq_true rfl)
  rw [lg_entry_eq]
  generalize (lg_sl ([.ref (a 5), .int st, .int f, .int t]) ++ List.replicate (6 - (lg_sl ([.ref (a 5), .int st, .int f, .int t])).length) Slot.unset).toArray = ls at hl ⊢
  have hl : lv_has ls 6 [(0, .ref (a 5)), (1, .int st), (2, .int f), (3, .int t)] := hl
  refine lv_iconst (v := 0) hx hb dX1_ofStation_0 (by decide) ?_
  refine lv_istore (lv' := [(4, .int 0), (0, .ref (a 5)), (1, .int st), (2, .int f), (3, .int t)]) hx hb dX1_ofStation_1 hl (by decide) rfl (fun ls hl => ?_)
  refine lv_iconst (v := 0) hx hb dX1_ofStation_3 (by decide) ?_
  refine lv_istore (lv' := [(5, .int 0), (4, .int 0), (0, .ref (a 5)), (1, .int st), (2, .int f), (3, .int t)]) hx hb dX1_ofStation_4 hl (by decide) rfl (fun ls hl => ?_)
  have lp : ∀ (d k : Nat), 0 ≤ k → k ≤ n → n + 1 ≤ k + d → ∀ (acc : Int32), acc = cnt (fun i => workB g i st f t) k → ∀ (ls : Array Slot), lv_has ls 6 [(5, .int (nI k)), (4, .int acc), (0, .ref (a 5)), (1, .int st), (2, .int f), (3, .int t)] → W p l e (headSpec wsX1_ofStation ({ frames := 3, cells := 0, slots := 0, locals := 72 })).room s m ([.ref (a 5), .int st, .int f, .int t] : List Value).toArray below meth c s.heap [] 0 0 (MQ below (vp_Si (fun r => r = cnt (fun i => workB g i st f t) n)) ([.ref (a 5), .int st, .int f, .int t] : List Value).toArray s 0 0 (fun _ => False)) (F0 m 6 ls []) := by
    intro d
    induction d with
    | zero => intro k h0 h1 h2; exact absurd h2 (by omega)
    | succ d ih =>
      intro k hk0 hkn hkd acc ea_acc ls hl
      subst ea_acc
      refine lv_iload hx hb dX1_ofStation_6 (lv_at hl 0 rfl) ?_
      refine lv_aload_n hx hb dX1_ofStation_8 rfl (lv_at hl 2 rfl) ?_
      refine va_get (D := (dC, dI)) (ci := 1) (v := .int (v 5)) (C := RX1) (T := TX1) (N := 10) hx hb hts (fun w h => List.mem_cons_of_mem _ (iw_X1 w h)) hown hK hP 5 rfl rfl 9 (by decide) (hts _ (List.mem_cons_of_mem _ fl_X1_size)) (fun _ h9 => h9) rfl dX1_ofStation_9 ?_
      refine lv_icmp_ge (tgt := 36) hx hb dX1_ofStation_12 (by decide) (fun c12 => ?_) (fun c12 => ?_)
      · have n12 := Int32.not_lt.mpr c12
        rw [hn] at c12
        have hkn2 : k = n := Nat.le_antisymm hkn ((nI_leI (by omega) (by omega)).mp c12)
        refine lv_iload hx hb dX1_ofStation_36 (lv_at hl 1 rfl) ?_
        exact W.iret (v := cnt (fun i => workB g i st f t) k) hx hb hr (fun t ht hW => ⟨_, rfl, (by subst hkn2; rfl), ht⟩) (fun _ h => absurd h List.not_mem_nil) dX1_ofStation_38
      · have n12 := Int32.not_le.mp c12
        rw [hn] at c12
        have hk : k < n := Nat.lt_of_not_le (fun h => c12 (nI_le h (by omega)))
        refine lv_aload_n hx hb dX1_ofStation_15 rfl (lv_at hl 2 rfl) ?_
        refine lv_iload hx hb dX1_ofStation_16 (lv_at hl 0 rfl) ?_
        refine lv_iload_n hx hb dX1_ofStation_18 rfl (lv_at hl 3 rfl) ?_
        refine lv_iload_n hx hb dX1_ofStation_19 rfl (lv_at hl 4 rfl) ?_
        refine lv_iload_n hx hb dX1_ofStation_20 rfl (lv_at hl 5 rfl) ?_
        refine vp_callSi (W.runV (As := [.int (nI k), .int st, .int f, .int t]) (rest := []) ⟨hx, hb, hml, hown, hts⟩ (c_isWork l dC dI cI cZ cJ a v g k st f t (by omega)) (cwV 4 hts (gd_V ml_X1_X1_isWork im_X1_isWork se_X1_isWork in_X1 kX1_isWork) rfl rfl rfl (by decide +kernel) ⟨Nat.le_of_ble_eq_true rfl, Nat.le_of_ble_eq_true rfl⟩) ⟨fun _ U g mk q => by obtain ⟨q0, qP, qK⟩ := q; exact ⟨q0, qP, va_K.moved (u := U) (U := U.calling g mk _) (Vm.Alike.refl U.vm) qK⟩, va_recv hK hP (ci := 1) (q0 := 5) rfl rfl, fun U hU hW => ⟨rfl, by rw [hU]; exact hP, va_K.moved hW.alike hK⟩⟩ rfl rfl hl.1 rfl (lv_room (Nat.le_of_ble_eq_true rfl)) dX1_ofStation_21 ⟨Nat.zero_le _, Nat.zero_le _⟩) (fun r21 hr21 => ?_)
        subst hr21
        refine lv_if_eq (tgt := 30) hx hb dX1_ofStation_24 (by decide) (fun c24 => ?_) (fun c24 => ?_)
        · have c24 := bI_0.mp c24
          refine lv_iinc (v := nI (k + 1)) (lv' := [(5, .int (nI (k + 1))), (4, .int (cnt (fun i => workB g i st f t) k)), (0, .ref (a 5)), (1, .int st), (2, .int f), (3, .int t)]) hx hb dX1_ofStation_30 hl (k := 0) rfl (nI_1 k) (by decide) rfl (fun ls hl => ?_)
          refine lv_goto (tgt := 6) hx hb dX1_ofStation_33 (by decide) ?_
          exact ih (k + 1) (by omega) (by omega) (by omega) _ (by simp [cnt_s, bI, c12, n12, c24]) ls (lv_sub hl [0, 1, 2, 3, 4, 5] rfl)
        · have c24 := bI_n0.mp c24
          refine lv_iinc (v := (cnt (fun i => workB g i st f t) k) + 1) (lv' := [(4, .int ((cnt (fun i => workB g i st f t) k) + 1)), (5, .int (nI k)), (0, .ref (a 5)), (1, .int st), (2, .int f), (3, .int t)]) hx hb dX1_ofStation_27 hl (k := 1) rfl rfl (by decide) rfl (fun ls hl => ?_)
          refine lv_iinc (v := nI (k + 1)) (lv' := [(5, .int (nI (k + 1))), (4, .int ((cnt (fun i => workB g i st f t) k) + 1)), (0, .ref (a 5)), (1, .int st), (2, .int f), (3, .int t)]) hx hb dX1_ofStation_30 hl (k := 1) rfl (nI_1 k) (by decide) rfl (fun ls hl => ?_)
          refine lv_goto (tgt := 6) hx hb dX1_ofStation_33 (by decide) ?_
          exact ih (k + 1) (by omega) (by omega) (by omega) _ (by simp [cnt_s, bI, c12, n12, c24]) ls (lv_sub hl [0, 1, 2, 3, 4, 5] rfl)
  exact lp (n + 1) 0 (by omega) (by omega) (by omega) _ (rfl) ls (lv_sub hl [0, 1, 2, 3, 4, 5] rfl)
set_option maxHeartbeats 4000000 in
set_option maxRecDepth 100000 in
theorem c_secondsOfStation (l : Launch) (dC : Nat → ClassId) (dI : Nat → Nat → Nat) (cI cZ cJ : ClassId) (a : Nat → Nat) (v : Nat → Int32) (g : Nat → Nat → Int32)  (n : Nat) (hn : v 5 = nI n) (hn2 : n ≤ 200) (st f t : Int32) : Met l yX1_secondsOfStation wsX1_secondsOfStation ({ frames := 3, cells := 0, slots := 0, locals := 72 }) (va_Pc [.ref (a 5), .int st, .int f, .int t] (fun U => va_P (dC, dI) clA (wA cI cZ a v g) U.heap ∧ va_K (dC, dI) clA (tyA cI cZ cJ) U)) (vp_Si (fun r => r = isum (fun i => if workB g i st f t = true then secs (g 9 i) + secs (g 10 i) else 0) n)) 0 0 (fun _ => False) := by
  refine Met.ofW (cc := cX1_secondsOfStation) (maxL := 6) (ret := (some .int)) (by decide) rfl ?_
  intro p e s m args below meth c s₁ B hml hv
  obtain ⟨rfl, hP, hK⟩ := hv
  have hx := B.exec
  have hb := B.bytes
  have hr := B.returns
  have hts := atoms_spec (ws := wsX1_secondsOfStation) B.pre
  have hown : s.vm.findClass RX1 = some m.cls := findClass_of_methodNamed B.named
  have hlocks := B.notSynchronized
  have hl := lv_entry ([.ref (a 5), .int st, .int f, .int t]) (n := 6) (Nat.le_of_ble_eq_true rfl)
  rw [lg_entry_eq]
  generalize (lg_sl ([.ref (a 5), .int st, .int f, .int t]) ++ List.replicate (6 - (lg_sl ([.ref (a 5), .int st, .int f, .int t])).length) Slot.unset).toArray = ls at hl ⊢
  have hl : lv_has ls 6 [(0, .ref (a 5)), (1, .int st), (2, .int f), (3, .int t)] := hl
  refine lv_iconst (v := 0) hx hb dX1_secondsOfStation_0 (by decide) ?_
  refine lv_istore (lv' := [(4, .int 0), (0, .ref (a 5)), (1, .int st), (2, .int f), (3, .int t)]) hx hb dX1_secondsOfStation_1 hl (by decide) rfl (fun ls hl => ?_)
  refine lv_iconst (v := 0) hx hb dX1_secondsOfStation_3 (by decide) ?_
  refine lv_istore (lv' := [(5, .int 0), (4, .int 0), (0, .ref (a 5)), (1, .int st), (2, .int f), (3, .int t)]) hx hb dX1_secondsOfStation_4 hl (by decide) rfl (fun ls hl => ?_)
  have lp : ∀ (d k : Nat), 0 ≤ k → k ≤ n → n + 1 ≤ k + d → ∀ (acc : Int32), acc = isum (fun i => if workB g i st f t = true then secs (g 9 i) + secs (g 10 i) else 0) k → ∀ (ls : Array Slot), lv_has ls 6 [(5, .int (nI k)), (4, .int acc), (0, .ref (a 5)), (1, .int st), (2, .int f), (3, .int t)] → W p l e (headSpec wsX1_secondsOfStation ({ frames := 3, cells := 0, slots := 0, locals := 72 })).room s m ([.ref (a 5), .int st, .int f, .int t] : List Value).toArray below meth c s.heap [] 0 0 (MQ below (vp_Si (fun r => r = isum (fun i => if workB g i st f t = true then secs (g 9 i) + secs (g 10 i) else 0) n)) ([.ref (a 5), .int st, .int f, .int t] : List Value).toArray s 0 0 (fun _ => False)) (F0 m 6 ls []) := by
    intro d
    induction d with
    | zero => intro k h0 h1 h2; exact absurd h2 (by omega)
    | succ d ih =>
      intro k hk0 hkn hkd acc ea_acc ls hl
      subst ea_acc
      refine lv_iload hx hb dX1_secondsOfStation_6 (lv_at hl 0 rfl) ?_
      refine lv_aload_n hx hb dX1_secondsOfStation_8 rfl (lv_at hl 2 rfl) ?_
      refine va_get (D := (dC, dI)) (ci := 1) (v := .int (v 5)) (C := RX1) (T := TX1) (N := 10) hx hb hts (fun w h => List.mem_cons_of_mem _ (iw_X1 w h)) hown hK hP 5 rfl rfl 9 (by decide) (hts _ (List.mem_cons_of_mem _ fl_X1_size)) (fun _ h9 => h9) rfl dX1_secondsOfStation_9 ?_
      refine lv_icmp_ge (tgt := 59) hx hb dX1_secondsOfStation_12 (by decide) (fun c12 => ?_) (fun c12 => ?_)
      · have n12 := Int32.not_lt.mpr c12
        rw [hn] at c12
        have hkn2 : k = n := Nat.le_antisymm hkn ((nI_leI (by omega) (by omega)).mp c12)
        refine lv_iload hx hb dX1_secondsOfStation_59 (lv_at hl 1 rfl) ?_
        exact W.iret (v := isum (fun i => if workB g i st f t = true then secs (g 9 i) + secs (g 10 i) else 0) k) hx hb hr (fun t ht hW => ⟨_, rfl, (by subst hkn2; rfl), ht⟩) (fun _ h => absurd h List.not_mem_nil) dX1_secondsOfStation_61
      · have n12 := Int32.not_le.mp c12
        rw [hn] at c12
        have hk : k < n := Nat.lt_of_not_le (fun h => c12 (nI_le h (by omega)))
        refine lv_aload_n hx hb dX1_secondsOfStation_15 rfl (lv_at hl 2 rfl) ?_
        refine lv_iload hx hb dX1_secondsOfStation_16 (lv_at hl 0 rfl) ?_
        refine lv_iload_n hx hb dX1_secondsOfStation_18 rfl (lv_at hl 3 rfl) ?_
        refine lv_iload_n hx hb dX1_secondsOfStation_19 rfl (lv_at hl 4 rfl) ?_
        refine lv_iload_n hx hb dX1_secondsOfStation_20 rfl (lv_at hl 5 rfl) ?_
        refine vp_callSi (W.runV (As := [.int (nI k), .int st, .int f, .int t]) (rest := []) ⟨hx, hb, hml, hown, hts⟩ (c_isWork l dC dI cI cZ cJ a v g k st f t (by omega)) (cwV 4 hts (gd_V ml_X1_X1_isWork im_X1_isWork se_X1_isWork in_X1 kX1_isWork) rfl rfl rfl (by decide +kernel) ⟨Nat.le_of_ble_eq_true rfl, Nat.le_of_ble_eq_true rfl⟩) ⟨fun _ U g mk q => by obtain ⟨q0, qP, qK⟩ := q; exact ⟨q0, qP, va_K.moved (u := U) (U := U.calling g mk _) (Vm.Alike.refl U.vm) qK⟩, va_recv hK hP (ci := 1) (q0 := 5) rfl rfl, fun U hU hW => ⟨rfl, by rw [hU]; exact hP, va_K.moved hW.alike hK⟩⟩ rfl rfl hl.1 rfl (lv_room (Nat.le_of_ble_eq_true rfl)) dX1_secondsOfStation_21 ⟨Nat.zero_le _, Nat.zero_le _⟩) (fun r21 hr21 => ?_)
        subst hr21
        refine lv_if_eq (tgt := 53) hx hb dX1_secondsOfStation_24 (by decide) (fun c24 => ?_) (fun c24 => ?_)
        · have c24 := bI_0.mp c24
          refine lv_iinc (v := nI (k + 1)) (lv' := [(5, .int (nI (k + 1))), (4, .int (isum (fun i => if workB g i st f t = true then secs (g 9 i) + secs (g 10 i) else 0) k)), (0, .ref (a 5)), (1, .int st), (2, .int f), (3, .int t)]) hx hb dX1_secondsOfStation_53 hl (k := 0) rfl (nI_1 k) (by decide) rfl (fun ls hl => ?_)
          refine lv_goto (tgt := 6) hx hb dX1_secondsOfStation_56 (by decide) ?_
          exact ih (k + 1) (by omega) (by omega) (by omega) _ (by simp [isum_s, c12, n12, c24]) ls (lv_sub hl [0, 1, 2, 3, 4, 5] rfl)
        · have c24 := bI_n0.mp c24
          refine lv_iload hx hb dX1_secondsOfStation_27 (lv_at hl 1 rfl) ?_
          refine lv_aload_n hx hb dX1_secondsOfStation_29 rfl (lv_at hl 2 rfl) ?_
          refine va_get (D := (dC, dI)) (ci := 1) (v := .ref (a 12)) (C := RX1) (T := TX1) (N := 10) hx hb hts (fun w h => List.mem_cons_of_mem _ (iw_X1 w h)) hown hK hP 5 rfl rfl 6 (by decide) (hts _ (List.mem_cons_of_mem _ fl_X1_turnOuts)) (fun _ h9 => h9) rfl dX1_secondsOfStation_30 ?_
          refine lv_iload hx hb dX1_secondsOfStation_33 (lv_at hl 0 rfl) ?_
          refine wi_ald hx hb hK hP 12 0 rfl rfl (k := k) (by omega) (by decide) dX1_secondsOfStation_35 ?_
          refine vp_callSi (W.runS (As := [.int (g 9 k)]) (rest := [.int (isum (fun i => if workB g i st f t = true then secs (g 9 i) + secs (g 10 i) else 0) k)]) ⟨hx, hb, hml, hown, hts⟩ (c_secondsOf l dC dI cI cZ cJ a v g (g 9 k)) (cwS 1 hts (gd_S ml_X1_X1_secondsOf sm_X1_secondsOf in_X1 kX1_secondsOf) rfl rfl rfl (by decide +kernel) ⟨Nat.le_of_ble_eq_true rfl, Nat.le_of_ble_eq_true rfl⟩) ⟨fun _ U g mk q => by obtain ⟨q0, qP, qK⟩ := q; exact ⟨q0, qP, va_K.moved (u := U) (U := U.calling g mk _) (Vm.Alike.refl U.vm) qK⟩, fun U hU hW => ⟨rfl, by rw [hU]; exact hP, va_K.moved hW.alike hK⟩⟩ rfl rfl hl.1 rfl (lv_room (Nat.le_of_ble_eq_true rfl)) dX1_secondsOfStation_36 ⟨Nat.zero_le _, Nat.zero_le _⟩) (fun r36 hr36 => ?_)
          subst hr36
          refine lv_aload_n hx hb dX1_secondsOfStation_39 rfl (lv_at hl 2 rfl) ?_
          refine va_get (D := (dC, dI)) (ci := 1) (v := .ref (a 13)) (C := RX1) (T := TX1) (N := 10) hx hb hts (fun w h => List.mem_cons_of_mem _ (iw_X1 w h)) hown hK hP 5 rfl rfl 7 (by decide) (hts _ (List.mem_cons_of_mem _ fl_X1_travels)) (fun _ h9 => h9) rfl dX1_secondsOfStation_40 ?_
          refine lv_iload hx hb dX1_secondsOfStation_43 (lv_at hl 0 rfl) ?_
          refine wi_ald hx hb hK hP 13 0 rfl rfl (k := k) (by omega) (by decide) dX1_secondsOfStation_45 ?_
          refine vp_callSi (W.runS (As := [.int (g 10 k)]) (rest := [.int (secs (g 9 k)), .int (isum (fun i => if workB g i st f t = true then secs (g 9 i) + secs (g 10 i) else 0) k)]) ⟨hx, hb, hml, hown, hts⟩ (c_secondsOf l dC dI cI cZ cJ a v g (g 10 k)) (cwS 1 hts (gd_S ml_X1_X1_secondsOf sm_X1_secondsOf in_X1 kX1_secondsOf) rfl rfl rfl (by decide +kernel) ⟨Nat.le_of_ble_eq_true rfl, Nat.le_of_ble_eq_true rfl⟩) ⟨fun _ U g mk q => by obtain ⟨q0, qP, qK⟩ := q; exact ⟨q0, qP, va_K.moved (u := U) (U := U.calling g mk _) (Vm.Alike.refl U.vm) qK⟩, fun U hU hW => ⟨rfl, by rw [hU]; exact hP, va_K.moved hW.alike hK⟩⟩ rfl rfl hl.1 rfl (lv_room (Nat.le_of_ble_eq_true rfl)) dX1_secondsOfStation_46 ⟨Nat.zero_le _, Nat.zero_le _⟩) (fun r46 hr46 => ?_)
          subst hr46
          refine lv_iadd hx hb dX1_secondsOfStation_49 ?_
          refine lv_iadd hx hb dX1_secondsOfStation_50 ?_
          refine lv_topi (fun x50 e50 => ?_)
          refine lv_istore (lv' := [(4, .int x50), (5, .int (nI k)), (0, .ref (a 5)), (1, .int st), (2, .int f), (3, .int t)]) hx hb dX1_secondsOfStation_51 hl (by decide) rfl (fun ls hl => ?_)
          refine lv_iinc (v := nI (k + 1)) (lv' := [(5, .int (nI (k + 1))), (4, .int x50), (0, .ref (a 5)), (1, .int st), (2, .int f), (3, .int t)]) hx hb dX1_secondsOfStation_53 hl (k := 1) rfl (nI_1 k) (by decide) rfl (fun ls hl => ?_)
          refine lv_goto (tgt := 6) hx hb dX1_secondsOfStation_56 (by decide) ?_
          exact ih (k + 1) (by omega) (by omega) (by omega) _ (by simp [isum_s, c12, n12, c24, e50]) ls (lv_sub hl [0, 1, 2, 3, 4, 5] rfl)
  exact lp (n + 1) 0 (by omega) (by omega) (by omega) _ (rfl) ls (lv_sub hl [0, 1, 2, 3, 4, 5] rfl)
end
section

def icmp (x y : Int32) : Int32 := if x < y then -1 else if x = y then 0 else 1
def takB (p t : Int32) : Bool := decide (¬ ((t >>> (p &&& 31)) &&& 1) = 0)
def gainI (g : Nat → Nat → Int32) (n : Nat) (j : Nat) (t : Int32) : Int32 := isum (fun i => if takB (nI i) t = true then icmp (g 12 j) (g 12 i) else 0) n
def msk : Nat → Int32
  | 0 => 0
  | k + 1 => msk k ||| ((1 : Int32) <<< (nI k &&& 31))
def facI : Nat → Int32
  | 0 => 1
  | 1 => 1
  | k + 2 => facI (k + 1) * nI (k + 2)
def lastB (g : Nat → Nat → Int32) (n j : Nat) : Bool := decide (∀ i, i < n → j < i → ¬ g 1 i = g 1 j)
def chgB (g : Nat → Nat → Int32) (n : Nat) (f t : Int32) (i : Nat) : Bool := decide (f < g 1 i) && decide (g 1 i ≤ t) && lastB g n i && decide (¬ mkOn g n (g 1 i) = mkOn g n (g 1 i - 1))
def totI (g : Nat → Nat → Int32) (n nd : Nat) (w f t kd ar : Int32) : Int32 := isum (fun i => if askB g i f t kd ar = true then amt g i w (mkOn g nd (g 3 i)) else 0) n
/-- Euclid's steps -/
def eu (a b : Int32) : Nat → Int32 × Int32
  | 0 => (a, b)
  | k + 1 => if (eu a b k).2 = 0 then eu a b k else ((eu a b k).2, (eu a b k).1 - (eu a b k).1 / (eu a b k).2 * (eu a b k).2)
theorem eu_stay (a b : Int32) {k : Nat} (h : (eu a b k).2 = 0) : ∀ d, eu a b (k + d) = eu a b k := by
  intro d
  induction d with
  | zero => rfl
  | succ d ih => rw [Nat.add_succ, eu, ih, if_pos h]
/-- 64 and 10, as numbers that nothing unfolds -/
theorem n64_ex : ∃ n : Nat, n = 64 := ⟨64, rfl⟩
noncomputable def n64 : Nat := Classical.choose n64_ex
theorem n64_eq : n64 = 64 := Classical.choose_spec n64_ex
theorem n10_ex : ∃ n : Nat, n = 10 := ⟨10, rfl⟩
noncomputable def n10 : Nat := Classical.choose n10_ex
theorem n10_eq : n10 = 10 := Classical.choose_spec n10_ex
noncomputable def gcdI (a b : Int32) : Int32 := (eu a b n64).1
theorem eu_end (a b : Int32) {k : Nat} (hk : k ≤ 64) (h : (eu a b k).2 = 0) : (eu a b k).1 = gcdI a b := by
  have := eu_stay a b h (64 - k)
  rw [Nat.add_sub_cancel' hk] at this
  rw [gcdI, n64_eq, this]
theorem eu_64 (a b : Int32) {k : Nat} (hk : k = 64) : (eu a b k).1 = gcdI a b := by
  rw [gcdI, n64_eq, hk]
noncomputable def lowT (x a b : Int32) : Int32 := if 0 < gcdI a b then x / gcdI a b else x
/-- the shown area with the fewest rows, but not none -/
def canB (g : Nat → Nat → Int32) (k : Nat) : Bool := decide (g 14 k = 0) && decide (0 < g 13 k)
def fewI (g : Nat → Nat → Int32) : Nat → Int32
  | 0 => -1
  | k + 1 => if canB g k = true ∧ (fewI g k < 0 ∨ g 13 k < g 13 (fewI g k).toNatClampNeg) then nI k else fewI g k
theorem fewI_in (g : Nat → Nat → Int32) : ∀ k, k ≤ 10 → fewI g k < 0 ∨ ∃ j, j < k ∧ fewI g k = nI j := by
  intro k
  induction k with
  | zero => intro _; exact Or.inl (by show (-1 : Int32) < 0; decide)
  | succ k ih =>
    intro hk
    rw [fewI]
    split
    · exact Or.inr ⟨k, by omega, rfl⟩
    · rcases ih (by omega) with h | ⟨j, h1, h2⟩
      · exact Or.inl h
      · exact Or.inr ⟨j, by omega, h2⟩
noncomputable def fewest (g : Nat → Nat → Int32) : Int32 := fewI g n10
theorem fewI_10 (g : Nat → Nat → Int32) {k : Nat} (hk : k = 10) : fewI g k = fewest g := by
  rw [fewest, n10_eq, hk]
theorem fewI_at (g : Nat → Nat → Int32) {k : Nat} (hk : k ≤ 10) (h : ¬ fewI g k < 0) : vp_in (fewI g k) 10 := by
  rcases fewI_in g k hk with h1 | ⟨j, h1, h2⟩
  · exact absurd h1 h
  · rw [h2]; exact vp_in_nI (by omega) (by decide)
theorem not_last (g : Nat → Nat → Int32) {n j i : Nat} (h1 : i < n) (h2 : j < i) (h3 : g 1 i = g 1 j) : lastB g n j = false := by
  rw [lastB, decide_eq_false_iff_not]
  exact fun h => h i h1 h2 h3

set_option maxHeartbeats 4000000 in
set_option maxRecDepth 100000 in
theorem c_icmp (l : Launch) (dC : Nat → ClassId) (dI : Nat → Nat → Nat) (cI cZ cJ : ClassId) (a : Nat → Nat) (v : Nat → Int32) (g : Nat → Nat → Int32) (x y : Int32) : Met l yInteger_compare wsInteger_compare ({ frames := 0, cells := 0, slots := 0, locals := 0 }) (va_Pc [.int x, .int y] (fun U => va_P (dC, dI) clA (wA cI cZ a v g) U.heap ∧ va_K (dC, dI) clA (tyA cI cZ cJ) U)) (vp_Si (fun r => r = icmp x y)) 0 0 (fun _ => False) := by
  refine Met.ofW (cc := cInteger_compare) (maxL := 2) (ret := (some .int)) (by decide) rfl ?_
  intro p e s m args below meth c s₁ B hml hv
  obtain ⟨rfl, hP, hK⟩ := hv
  have hx := B.exec
  have hb := B.bytes
  have hr := B.returns
  have hts := atoms_spec (ws := wsInteger_compare) B.pre
  have hown : s.vm.findClass RInteger = some m.cls := findClass_of_methodNamed B.named
  have hlocks := B.notSynchronized
  have hl := lv_entry ([.int x, .int y]) (n := 2) (Nat.le_of_ble_eq_true rfl)
  rw [lg_entry_eq]
  generalize (lg_sl ([.int x, .int y]) ++ List.replicate (2 - (lg_sl ([.int x, .int y])).length) Slot.unset).toArray = ls at hl ⊢
  have hl : lv_has ls 2 [(0, .int x), (1, .int y)] := hl
  refine lv_iload_n hx hb dInteger_compare_0 rfl (lv_at hl 0 rfl) ?_
  refine lv_iload_n hx hb dInteger_compare_1 rfl (lv_at hl 1 rfl) ?_
  refine lv_icmp_ge (tgt := 9) hx hb dInteger_compare_2 (by decide) (fun c2 => ?_) (fun c2 => ?_)
  · have n2 := Int32.not_lt.mpr c2
    refine lv_iload_n hx hb dInteger_compare_9 rfl (lv_at hl 0 rfl) ?_
    refine lv_iload_n hx hb dInteger_compare_10 rfl (lv_at hl 1 rfl) ?_
    refine lv_icmp_ne (tgt := 18) hx hb dInteger_compare_11 (by decide) (fun c11 => ?_) (fun c11 => ?_)
    · refine lv_iconst (v := 1) hx hb dInteger_compare_18 (by decide) ?_
      exact W.iret (v := 1) hx hb hr (fun t ht hW => ⟨_, rfl, (by simp [icmp, c2, n2, c11]), ht⟩) (fun _ h => absurd h List.not_mem_nil) dInteger_compare_19
    · refine lv_iconst (v := 0) hx hb dInteger_compare_14 (by decide) ?_
      refine lv_goto (tgt := 19) hx hb dInteger_compare_15 (by decide) ?_
      exact W.iret (v := 0) hx hb hr (fun t ht hW => ⟨_, rfl, (by simp [icmp, c2, n2, c11]), ht⟩) (fun _ h => absurd h List.not_mem_nil) dInteger_compare_19
  · have n2 := Int32.not_le.mp c2
    refine lv_iconst (v := (-1)) hx hb dInteger_compare_5 (by decide) ?_
    refine lv_goto (tgt := 19) hx hb dInteger_compare_6 (by decide) ?_
    exact W.iret (v := -1) hx hb hr (fun t ht hW => ⟨_, rfl, (by simp [icmp, c2, n2]), ht⟩) (fun _ h => absurd h List.not_mem_nil) dInteger_compare_19
set_option maxHeartbeats 4000000 in
set_option maxRecDepth 100000 in
theorem c_isize (l : Launch) (dC : Nat → ClassId) (dI : Nat → Nat → Nat) (cI cZ cJ : ClassId) (a : Nat → Nat) (v : Nat → Int32) (g : Nat → Nat → Int32)  : Met l yX1_size wsX1_size ({ frames := 0, cells := 0, slots := 0, locals := 0 }) (va_Pc [.ref (a 5)] (fun U => va_P (dC, dI) clA (wA cI cZ a v g) U.heap ∧ va_K (dC, dI) clA (tyA cI cZ cJ) U)) (vp_Si (fun r => r = v 5)) 0 0 (fun _ => False) := by
  refine Met.ofW (cc := cX1_size) (maxL := 1) (ret := (some .int)) (by decide) rfl ?_
  intro p e s m args below meth c s₁ B hml hv
  obtain ⟨rfl, hP, hK⟩ := hv
  have hx := B.exec
  have hb := B.bytes
  have hr := B.returns
  have hts := atoms_spec (ws := wsX1_size) B.pre
  have hown : s.vm.findClass RX1 = some m.cls := findClass_of_methodNamed B.named
  have hlocks := B.notSynchronized
  have hl := lv_entry ([.ref (a 5)]) (n := 1) (Nat.le_of_ble_eq_true rfl)
  rw [lg_entry_eq]
  generalize (lg_sl ([.ref (a 5)]) ++ List.replicate (1 - (lg_sl ([.ref (a 5)])).length) Slot.unset).toArray = ls at hl ⊢
  have hl : lv_has ls 1 [(0, .ref (a 5))] := hl
  refine lv_aload_n hx hb dX1_size_0 rfl (lv_at hl 0 rfl) ?_
  refine va_get (D := (dC, dI)) (ci := 1) (v := .int (v 5)) (C := RX1) (T := TX1) (N := 10) hx hb hts (fun w h => List.mem_cons_of_mem _ (iw_X1 w h)) hown hK hP 5 rfl rfl 9 (by decide) (hts _ (List.mem_cons_of_mem _ fl_X1_size)) (fun _ h9 => h9) rfl dX1_size_1 ?_
  exact W.iret (v := v 5) hx hb hr (fun t ht hW => ⟨_, rfl, rfl, ht⟩) (fun _ h => absurd h List.not_mem_nil) dX1_size_4
set_option maxHeartbeats 4000000 in
set_option maxRecDepth 100000 in
theorem c_ifull (l : Launch) (dC : Nat → ClassId) (dI : Nat → Nat → Nat) (cI cZ cJ : ClassId) (a : Nat → Nat) (v : Nat → Int32) (g : Nat → Nat → Int32)  : Met l yX1_isFull wsX1_isFull ({ frames := 0, cells := 0, slots := 0, locals := 0 }) (va_Pc [.ref (a 5)] (fun U => va_P (dC, dI) clA (wA cI cZ a v g) U.heap ∧ va_K (dC, dI) clA (tyA cI cZ cJ) U)) (vp_Si (fun r => r = bI (decide (200 ≤ v 5)))) 0 0 (fun _ => False) := by
  refine Met.ofW (cc := cX1_isFull) (maxL := 1) (ret := (some .boolean)) (by decide) rfl ?_
  intro p e s m args below meth c s₁ B hml hv
  obtain ⟨rfl, hP, hK⟩ := hv
  have hx := B.exec
  have hb := B.bytes
  have hr := B.returns
  have hts := atoms_spec (ws := wsX1_isFull) B.pre
  have hown : s.vm.findClass RX1 = some m.cls := findClass_of_methodNamed B.named
  have hlocks := B.notSynchronized
  have hl := lv_entry ([.ref (a 5)]) (n := 1) (Nat.le_of_ble_eq_true rfl)
  rw [lg_entry_eq]
  generalize (lg_sl ([.ref (a 5)]) ++ List.replicate (1 - (lg_sl ([.ref (a 5)])).length) Slot.unset).toArray = ls at hl ⊢
  have hl : lv_has ls 1 [(0, .ref (a 5))] := hl
  refine lv_aload_n hx hb dX1_isFull_0 rfl (lv_at hl 0 rfl) ?_
  refine va_get (D := (dC, dI)) (ci := 1) (v := .int (v 5)) (C := RX1) (T := TX1) (N := 10) hx hb hts (fun w h => List.mem_cons_of_mem _ (iw_X1 w h)) hown hK hP 5 rfl rfl 9 (by decide) (hts _ (List.mem_cons_of_mem _ fl_X1_size)) (fun _ h9 => h9) rfl dX1_isFull_1 ?_
  refine lv_sipush (v := 200) hx hb dX1_isFull_4 (by decide) ?_
  refine lv_icmp_lt (tgt := 14) hx hb dX1_isFull_7 (by decide) (fun c7 => ?_) (fun c7 => ?_)
  · have n7 := Int32.not_le.mpr c7
    refine lv_iconst (v := 0) hx hb dX1_isFull_14 (by decide) ?_
    exact W.zret (v := 0) hx hb hr rfl (fun t ht hW => ⟨_, rfl, (by simp [bI, c7, n7]), ht⟩) (fun _ h => absurd h List.not_mem_nil) dX1_isFull_15
  · have n7 := Int32.not_lt.mp c7
    refine lv_iconst (v := 1) hx hb dX1_isFull_10 (by decide) ?_
    refine lv_goto (tgt := 15) hx hb dX1_isFull_11 (by decide) ?_
    exact W.zret (v := 1) hx hb hr rfl (fun t ht hW => ⟨_, rfl, (by simp [bI, c7, n7]), ht⟩) (fun _ h => absurd h List.not_mem_nil) dX1_isFull_15
set_option maxHeartbeats 4000000 in
set_option maxRecDepth 100000 in
theorem c_dfull (l : Launch) (dC : Nat → ClassId) (dI : Nat → Nat → Nat) (cI cZ cJ : ClassId) (a : Nat → Nat) (v : Nat → Int32) (g : Nat → Nat → Int32)  : Met l yX0_isFull wsX0_isFull ({ frames := 0, cells := 0, slots := 0, locals := 0 }) (va_Pc [.ref (a 2)] (fun U => va_P (dC, dI) clA (wA cI cZ a v g) U.heap ∧ va_K (dC, dI) clA (tyA cI cZ cJ) U)) (vp_Si (fun r => r = bI (decide (6 ≤ v 4)))) 0 0 (fun _ => False) := by
  refine Met.ofW (cc := cX0_isFull) (maxL := 1) (ret := (some .boolean)) (by decide) rfl ?_
  intro p e s m args below meth c s₁ B hml hv
  obtain ⟨rfl, hP, hK⟩ := hv
  have hx := B.exec
  have hb := B.bytes
  have hr := B.returns
  have hts := atoms_spec (ws := wsX0_isFull) B.pre
  have hown : s.vm.findClass RX0 = some m.cls := findClass_of_methodNamed B.named
  have hlocks := B.notSynchronized
  have hl := lv_entry ([.ref (a 2)]) (n := 1) (Nat.le_of_ble_eq_true rfl)
  rw [lg_entry_eq]
  generalize (lg_sl ([.ref (a 2)]) ++ List.replicate (1 - (lg_sl ([.ref (a 2)])).length) Slot.unset).toArray = ls at hl ⊢
  have hl : lv_has ls 1 [(0, .ref (a 2))] := hl
  refine lv_aload_n hx hb dX0_isFull_0 rfl (lv_at hl 0 rfl) ?_
  refine va_get (D := (dC, dI)) (ci := 0) (v := .int (v 4)) (C := RX0) (T := TX0) (N := 3) hx hb hts (fun w h => List.mem_cons_of_mem _ (iw_X0 w h)) hown hK hP 2 rfl rfl 2 (by decide) (hts _ (List.mem_cons_of_mem _ fl_X0_size)) (fun _ h9 => h9) rfl dX0_isFull_1 ?_
  refine lv_bipush (v := 6) hx hb dX0_isFull_4 (by decide) ?_
  refine lv_icmp_lt (tgt := 13) hx hb dX0_isFull_6 (by decide) (fun c6 => ?_) (fun c6 => ?_)
  · have n6 := Int32.not_le.mpr c6
    refine lv_iconst (v := 0) hx hb dX0_isFull_13 (by decide) ?_
    exact W.zret (v := 0) hx hb hr rfl (fun t ht hW => ⟨_, rfl, (by simp [bI, c6, n6]), ht⟩) (fun _ h => absurd h List.not_mem_nil) dX0_isFull_14
  · have n6 := Int32.not_lt.mp c6
    refine lv_iconst (v := 1) hx hb dX0_isFull_9 (by decide) ?_
    refine lv_goto (tgt := 14) hx hb dX0_isFull_10 (by decide) ?_
    exact W.zret (v := 1) hx hb hr rfl (fun t ht hW => ⟨_, rfl, (by simp [bI, c6, n6]), ht⟩) (fun _ h => absurd h List.not_mem_nil) dX0_isFull_14
set_option maxHeartbeats 4000000 in
set_option maxRecDepth 100000 in
theorem c_amount (l : Launch) (dC : Nat → ClassId) (dI : Nat → Nat → Nat) (cI cZ cJ : ClassId) (a : Nat → Nat) (v : Nat → Int32) (g : Nat → Nat → Int32) (k : Nat) (w mk : Int32) (hk : k < 200) : Met l yX1_amount wsX1_amount ({ frames := 3, cells := 0, slots := 0, locals := 65 }) (va_Pc [.ref (a 5), .int (nI k), .int w, .int mk] (fun U => va_P (dC, dI) clA (wA cI cZ a v g) U.heap ∧ va_K (dC, dI) clA (tyA cI cZ cJ) U)) (vp_Si (fun r => r = amt g k w mk)) 0 0 (fun _ => False) := by
  refine Met.ofW (cc := cX1_amount) (maxL := 4) (ret := (some .int)) (by decide) rfl ?_
  intro p e s m args below meth c s₁ B hml hv
  obtain ⟨rfl, hP, hK⟩ := hv
  have hx := B.exec
  have hb := B.bytes
  have hr := B.returns
  have hts := atoms_spec (ws := wsX1_amount) B.pre
  have hown : s.vm.findClass RX1 = some m.cls := findClass_of_methodNamed B.named
  have hlocks := B.notSynchronized
  have hl := lv_entry ([.ref (a 5), .int (nI k), .int w, .int mk]) (n := 4) (Nat.le_of_ble_eq_true rfl)
  rw [lg_entry_eq]
  generalize (lg_sl ([.ref (a 5), .int (nI k), .int w, .int mk]) ++ List.replicate (4 - (lg_sl ([.ref (a 5), .int (nI k), .int w, .int mk])).length) Slot.unset).toArray = ls at hl ⊢
  have hl : lv_has ls 4 [(0, .ref (a 5)), (1, .int (nI k)), (2, .int w), (3, .int mk)] := hl
  refine lv_iload_n hx hb dX1_amount_0 rfl (lv_at hl 2 rfl) ?_
  by_cases s1_0 : w = 0
  · refine lv_tableIn (off := 35) (tgt := 36) hx hb dX1_amount_1 (by rw [s1_0]; decide) (by rw [s1_0]; decide) (by rw [s1_0]; decide) (by decide) ?_
    refine lv_iconst (v := 1) hx hb dX1_amount_36 (by decide) ?_
    exact W.iret (v := 1) hx hb hr (fun t ht hW => ⟨_, rfl, (by simp [amt, bI, s1_0]), ht⟩) (fun _ h => absurd h List.not_mem_nil) dX1_amount_37
  · skip
    by_cases s1_1 : w = 1
    · refine lv_tableIn (off := 37) (tgt := 38) hx hb dX1_amount_1 (by rw [s1_1]; decide) (by rw [s1_1]; decide) (by rw [s1_1]; decide) (by decide) ?_
      refine lv_aload_n hx hb dX1_amount_38 rfl (lv_at hl 0 rfl) ?_
      refine va_get (D := (dC, dI)) (ci := 1) (v := .ref (a 11)) (C := RX1) (T := TX1) (N := 10) hx hb hts (fun w h => List.mem_cons_of_mem _ (iw_X1 w h)) hown hK hP 5 rfl rfl 5 (by decide) (hts _ (List.mem_cons_of_mem _ fl_X1_marks)) (fun _ h9 => h9) rfl dX1_amount_39 ?_
      refine lv_iload_n hx hb dX1_amount_42 rfl (lv_at hl 1 rfl) ?_
      refine wi_ald hx hb hK hP 11 0 rfl rfl (k := k) (by omega) (by decide) dX1_amount_43 ?_
      refine lv_iconst (v := 1) hx hb dX1_amount_44 (by decide) ?_
      refine lv_iand hx hb dX1_amount_45 ?_
      refine lv_if_eq (tgt := 53) hx hb dX1_amount_46 (by decide) (fun c46 => ?_) (fun c46 => ?_)
      · refine lv_iconst (v := 0) hx hb dX1_amount_53 (by decide) ?_
        exact W.iret (v := 0) hx hb hr (fun t ht hW => ⟨_, rfl, (by simp [amt, bI, s1_0, s1_1, c46]), ht⟩) (fun _ h => absurd h List.not_mem_nil) dX1_amount_54
      · refine lv_iconst (v := 1) hx hb dX1_amount_49 (by decide) ?_
        refine lv_goto (tgt := 54) hx hb dX1_amount_50 (by decide) ?_
        exact W.iret (v := 1) hx hb hr (fun t ht hW => ⟨_, rfl, (by simp [amt, bI, s1_0, s1_1, c46]), ht⟩) (fun _ h => absurd h List.not_mem_nil) dX1_amount_54
    · skip
      by_cases s1_2 : w = 2
      · refine lv_tableIn (off := 54) (tgt := 55) hx hb dX1_amount_1 (by rw [s1_2]; decide) (by rw [s1_2]; decide) (by rw [s1_2]; decide) (by decide) ?_
        refine lv_aload_n hx hb dX1_amount_55 rfl (lv_at hl 0 rfl) ?_
        refine lv_iload_n hx hb dX1_amount_56 rfl (lv_at hl 1 rfl) ?_
        refine lv_iload_n hx hb dX1_amount_57 rfl (lv_at hl 3 rfl) ?_
        refine vp_callSi (W.runV (As := [.int (nI k), .int mk]) (rest := []) ⟨hx, hb, hml, hown, hts⟩ (c_isWithin l dC dI cI cZ cJ a v g k mk (by omega)) (cwV 2 hts (gd_V ml_X1_X1_isWithin im_X1_isWithin se_X1_isWithin in_X1 kX1_isWithin) rfl rfl rfl (by decide +kernel) ⟨Nat.le_of_ble_eq_true rfl, Nat.le_of_ble_eq_true rfl⟩) ⟨fun _ U g mk q => by obtain ⟨q0, qP, qK⟩ := q; exact ⟨q0, qP, va_K.moved (u := U) (U := U.calling g mk _) (Vm.Alike.refl U.vm) qK⟩, va_recv hK hP (ci := 1) (q0 := 5) rfl rfl, fun U hU hW => ⟨rfl, by rw [hU]; exact hP, va_K.moved hW.alike hK⟩⟩ rfl rfl hl.1 rfl (lv_room (Nat.le_of_ble_eq_true rfl)) dX1_amount_58 ⟨Nat.zero_le _, Nat.zero_le _⟩) (fun r58 hr58 => ?_)
        subst hr58
        refine lv_if_eq (tgt := 68) hx hb dX1_amount_61 (by decide) (fun c61 => ?_) (fun c61 => ?_)
        · have c61 := bI_0.mp c61
          refine lv_iconst (v := 0) hx hb dX1_amount_68 (by decide) ?_
          exact W.iret (v := 0) hx hb hr (fun t ht hW => ⟨_, rfl, (by simp [amt, bI, s1_0, s1_1, s1_2, c61]), ht⟩) (fun _ h => absurd h List.not_mem_nil) dX1_amount_69
        · have c61 := bI_n0.mp c61
          refine lv_iconst (v := 1) hx hb dX1_amount_64 (by decide) ?_
          refine lv_goto (tgt := 69) hx hb dX1_amount_65 (by decide) ?_
          exact W.iret (v := 1) hx hb hr (fun t ht hW => ⟨_, rfl, (by simp [amt, bI, s1_0, s1_1, s1_2, c61]), ht⟩) (fun _ h => absurd h List.not_mem_nil) dX1_amount_69
      · skip
        by_cases s1_3 : w = 3
        · refine lv_tableIn (off := 69) (tgt := 70) hx hb dX1_amount_1 (by rw [s1_3]; decide) (by rw [s1_3]; decide) (by rw [s1_3]; decide) (by decide) ?_
          refine lv_aload_n hx hb dX1_amount_70 rfl (lv_at hl 0 rfl) ?_
          refine lv_iload_n hx hb dX1_amount_71 rfl (lv_at hl 1 rfl) ?_
          refine lv_iload_n hx hb dX1_amount_72 rfl (lv_at hl 3 rfl) ?_
          refine vp_callSi (W.runV (As := [.int (nI k), .int mk]) (rest := []) ⟨hx, hb, hml, hown, hts⟩ (c_isWithout l dC dI cI cZ cJ a v g k mk (by omega)) (cwV 2 hts (gd_V ml_X1_X1_isWithout im_X1_isWithout se_X1_isWithout in_X1 kX1_isWithout) rfl rfl rfl (by decide +kernel) ⟨Nat.le_of_ble_eq_true rfl, Nat.le_of_ble_eq_true rfl⟩) ⟨fun _ U g mk q => by obtain ⟨q0, qP, qK⟩ := q; exact ⟨q0, qP, va_K.moved (u := U) (U := U.calling g mk _) (Vm.Alike.refl U.vm) qK⟩, va_recv hK hP (ci := 1) (q0 := 5) rfl rfl, fun U hU hW => ⟨rfl, by rw [hU]; exact hP, va_K.moved hW.alike hK⟩⟩ rfl rfl hl.1 rfl (lv_room (Nat.le_of_ble_eq_true rfl)) dX1_amount_73 ⟨Nat.zero_le _, Nat.zero_le _⟩) (fun r73 hr73 => ?_)
          subst hr73
          refine lv_if_eq (tgt := 83) hx hb dX1_amount_76 (by decide) (fun c76 => ?_) (fun c76 => ?_)
          · have c76 := bI_0.mp c76
            refine lv_iconst (v := 0) hx hb dX1_amount_83 (by decide) ?_
            exact W.iret (v := 0) hx hb hr (fun t ht hW => ⟨_, rfl, (by simp [amt, bI, s1_0, s1_1, s1_2, s1_3, c76]), ht⟩) (fun _ h => absurd h List.not_mem_nil) dX1_amount_84
          · have c76 := bI_n0.mp c76
            refine lv_iconst (v := 1) hx hb dX1_amount_79 (by decide) ?_
            refine lv_goto (tgt := 84) hx hb dX1_amount_80 (by decide) ?_
            exact W.iret (v := 1) hx hb hr (fun t ht hW => ⟨_, rfl, (by simp [amt, bI, s1_0, s1_1, s1_2, s1_3, c76]), ht⟩) (fun _ h => absurd h List.not_mem_nil) dX1_amount_84
        · skip
          by_cases s1_4 : w = 4
          · refine lv_tableIn (off := 84) (tgt := 85) hx hb dX1_amount_1 (by rw [s1_4]; decide) (by rw [s1_4]; decide) (by rw [s1_4]; decide) (by decide) ?_
            refine lv_aload_n hx hb dX1_amount_85 rfl (lv_at hl 0 rfl) ?_
            refine va_get (D := (dC, dI)) (ci := 1) (v := .ref (a 12)) (C := RX1) (T := TX1) (N := 10) hx hb hts (fun w h => List.mem_cons_of_mem _ (iw_X1 w h)) hown hK hP 5 rfl rfl 6 (by decide) (hts _ (List.mem_cons_of_mem _ fl_X1_turnOuts)) (fun _ h9 => h9) rfl dX1_amount_86 ?_
            refine lv_iload_n hx hb dX1_amount_89 rfl (lv_at hl 1 rfl) ?_
            refine wi_ald hx hb hK hP 12 0 rfl rfl (k := k) (by omega) (by decide) dX1_amount_90 ?_
            refine vp_callSi (W.runS (As := [.int (g 9 k)]) (rest := []) ⟨hx, hb, hml, hown, hts⟩ (c_secondsOf l dC dI cI cZ cJ a v g (g 9 k)) (cwS 1 hts (gd_S ml_X1_X1_secondsOf sm_X1_secondsOf in_X1 kX1_secondsOf) rfl rfl rfl (by decide +kernel) ⟨Nat.le_of_ble_eq_true rfl, Nat.le_of_ble_eq_true rfl⟩) ⟨fun _ U g mk q => by obtain ⟨q0, qP, qK⟩ := q; exact ⟨q0, qP, va_K.moved (u := U) (U := U.calling g mk _) (Vm.Alike.refl U.vm) qK⟩, fun U hU hW => ⟨rfl, by rw [hU]; exact hP, va_K.moved hW.alike hK⟩⟩ rfl rfl hl.1 rfl (lv_room (Nat.le_of_ble_eq_true rfl)) dX1_amount_91 ⟨Nat.zero_le _, Nat.zero_le _⟩) (fun r91 hr91 => ?_)
            subst hr91
            exact W.iret (v := secs (g 9 k)) hx hb hr (fun t ht hW => ⟨_, rfl, (by simp [amt, bI, s1_0, s1_1, s1_2, s1_3, s1_4]), ht⟩) (fun _ h => absurd h List.not_mem_nil) dX1_amount_94
          · skip
            have t1_0 := lv_neT s1_0 (show (0 : Int32).toInt = 0 by decide)
            have t1_1 := lv_neT s1_1 (show (1 : Int32).toInt = 1 by decide)
            have t1_2 := lv_neT s1_2 (show (2 : Int32).toInt = 2 by decide)
            have t1_3 := lv_neT s1_3 (show (3 : Int32).toInt = 3 by decide)
            have t1_4 := lv_neT s1_4 (show (4 : Int32).toInt = 4 by decide)
            refine lv_tableOut (tgt := 95) hx hb dX1_amount_1 (by omega) (by decide) ?_
            refine lv_iconst (v := 0) hx hb dX1_amount_95 (by decide) ?_
            exact W.iret (v := 0) hx hb hr (fun t ht hW => ⟨_, rfl, (by simp [amt, bI, s1_0, s1_1, s1_2, s1_3, s1_4]), ht⟩) (fun _ h => absurd h List.not_mem_nil) dX1_amount_96
set_option maxHeartbeats 4000000 in
set_option maxRecDepth 100000 in
theorem c_markOn (l : Launch) (dC : Nat → ClassId) (dI : Nat → Nat → Nat) (cI cZ cJ : ClassId) (a : Nat → Nat) (v : Nat → Int32) (g : Nat → Nat → Int32)  (nd : Nat) (hnd : v 4 = nI nd) (hnd2 : nd ≤ 6) (day : Int32) : Met l yX0_markOn wsX0_markOn ({ frames := 0, cells := 0, slots := 0, locals := 0 }) (va_Pc [.ref (a 2), .int day] (fun U => va_P (dC, dI) clA (wA cI cZ a v g) U.heap ∧ va_K (dC, dI) clA (tyA cI cZ cJ) U)) (vp_Si (fun r => r = mkOn g nd day)) 0 0 (fun _ => False) := by
  refine Met.ofW (cc := cX0_markOn) (maxL := 5) (ret := (some .int)) (by decide) rfl ?_
  intro p e s m args below meth c s₁ B hml hv
  obtain ⟨rfl, hP, hK⟩ := hv
  have hx := B.exec
  have hb := B.bytes
  have hr := B.returns
  have hts := atoms_spec (ws := wsX0_markOn) B.pre
  have hown : s.vm.findClass RX0 = some m.cls := findClass_of_methodNamed B.named
  have hlocks := B.notSynchronized
  have hl := lv_entry ([.ref (a 2), .int day]) (n := 5) (Nat.le_of_ble_eq_true rfl)
  rw [lg_entry_eq]
  generalize (lg_sl ([.ref (a 2), .int day]) ++ List.replicate (5 - (lg_sl ([.ref (a 2), .int day])).length) Slot.unset).toArray = ls at hl ⊢
  have hl : lv_has ls 5 [(0, .ref (a 2)), (1, .int day)] := hl
  refine lv_iconst (v := (-1)) hx hb dX0_markOn_0 (by decide) ?_
  refine lv_istore_n (lv' := [(2, .int (-1)), (0, .ref (a 2)), (1, .int day)]) hx hb dX0_markOn_1 rfl hl (by decide) rfl (fun ls hl => ?_)
  refine lv_iconst (v := 0) hx hb dX0_markOn_2 (by decide) ?_
  refine lv_istore_n (lv' := [(3, .int 0), (2, .int (-1)), (0, .ref (a 2)), (1, .int day)]) hx hb dX0_markOn_3 rfl hl (by decide) rfl (fun ls hl => ?_)
  refine lv_iconst (v := 0) hx hb dX0_markOn_4 (by decide) ?_
  refine lv_istore (lv' := [(4, .int 0), (3, .int 0), (2, .int (-1)), (0, .ref (a 2)), (1, .int day)]) hx hb dX0_markOn_5 hl (by decide) rfl (fun ls hl => ?_)
  have lp : ∀ (d k : Nat), 0 ≤ k → k ≤ nd → nd + 1 ≤ k + d → ∀ (mk si : Int32), mk = (mkF g day k).1 → si = (mkF g day k).2 → ∀ (ls : Array Slot), lv_has ls 5 [(4, .int (nI k)), (2, .int mk), (3, .int si), (0, .ref (a 2)), (1, .int day)] → W p l e (headSpec wsX0_markOn ({ frames := 0, cells := 0, slots := 0, locals := 0 })).room s m ([.ref (a 2), .int day] : List Value).toArray below meth c s.heap [] 0 0 (MQ below (vp_Si (fun r => r = mkOn g nd day)) ([.ref (a 2), .int day] : List Value).toArray s 0 0 (fun _ => False)) (F0 m 7 ls []) := by
    intro d
    induction d with
    | zero => intro k h0 h1 h2; exact absurd h2 (by omega)
    | succ d ih =>
      intro k hk0 hkn hkd mk si ea_mk ea_si ls hl
      subst ea_mk ea_si
      refine lv_iload hx hb dX0_markOn_7 (lv_at hl 0 rfl) ?_
      refine lv_aload_n hx hb dX0_markOn_9 rfl (lv_at hl 3 rfl) ?_
      refine va_get (D := (dC, dI)) (ci := 0) (v := .int (v 4)) (C := RX0) (T := TX0) (N := 3) hx hb hts (fun w h => List.mem_cons_of_mem _ (iw_X0 w h)) hown hK hP 2 rfl rfl 2 (by decide) (hts _ (List.mem_cons_of_mem _ fl_X0_size)) (fun _ h9 => h9) rfl dX0_markOn_10 ?_
      refine lv_icmp_ge (tgt := 60) hx hb dX0_markOn_13 (by decide) (fun c13 => ?_) (fun c13 => ?_)
      · have n13 := Int32.not_lt.mpr c13
        rw [hnd] at c13
        have hkn2 : k = nd := Nat.le_antisymm hkn ((nI_leI (by omega) (by omega)).mp c13)
        refine lv_iload_n hx hb dX0_markOn_60 rfl (lv_at hl 1 rfl) ?_
        exact W.iret (v := (mkF g day k).1) hx hb hr (fun t ht hW => ⟨_, rfl, (by subst hkn2; rfl), ht⟩) (fun _ h => absurd h List.not_mem_nil) dX0_markOn_61
      · have n13 := Int32.not_le.mp c13
        rw [hnd] at c13
        have hk : k < nd := Nat.lt_of_not_le (fun h => c13 (nI_le h (by omega)))
        refine lv_aload_n hx hb dX0_markOn_16 rfl (lv_at hl 3 rfl) ?_
        refine va_get (D := (dC, dI)) (ci := 0) (v := .ref (a 3)) (C := RX0) (T := TX0) (N := 3) hx hb hts (fun w h => List.mem_cons_of_mem _ (iw_X0 w h)) hown hK hP 2 rfl rfl 0 (by decide) (hts _ (List.mem_cons_of_mem _ fl_X0_days)) (fun _ h9 => h9) rfl dX0_markOn_17 ?_
        refine lv_iload hx hb dX0_markOn_20 (lv_at hl 0 rfl) ?_
        refine wi_ald hx hb hK hP 3 0 rfl rfl (k := k) (by omega) (by decide) dX0_markOn_22 ?_
        refine lv_iload_n hx hb dX0_markOn_23 rfl (lv_at hl 4 rfl) ?_
        refine lv_icmp_gt (tgt := 54) hx hb dX0_markOn_24 (by decide) (fun c24 => ?_) (fun c24 => ?_)
        · have n24 := Int32.not_le.mpr c24
          refine lv_iinc (v := nI (k + 1)) (lv' := [(4, .int (nI (k + 1))), (2, .int ((mkF g day k).1)), (3, .int ((mkF g day k).2)), (0, .ref (a 2)), (1, .int day)]) hx hb dX0_markOn_54 hl (k := 0) rfl (nI_1 k) (by decide) rfl (fun ls hl => ?_)
          refine lv_goto (tgt := 7) hx hb dX0_markOn_57 (by decide) ?_
          exact ih (k + 1) (by omega) (by omega) (by omega) _ _ (by simp [mkF, c13, n13, c24, n24]) (by simp [mkF, c13, n13, c24, n24]) ls (lv_sub hl [0, 1, 2, 3, 4] rfl)
        · have n24 := Int32.not_lt.mp c24
          refine lv_aload_n hx hb dX0_markOn_27 rfl (lv_at hl 3 rfl) ?_
          refine va_get (D := (dC, dI)) (ci := 0) (v := .ref (a 3)) (C := RX0) (T := TX0) (N := 3) hx hb hts (fun w h => List.mem_cons_of_mem _ (iw_X0 w h)) hown hK hP 2 rfl rfl 0 (by decide) (hts _ (List.mem_cons_of_mem _ fl_X0_days)) (fun _ h9 => h9) rfl dX0_markOn_28 ?_
          refine lv_iload hx hb dX0_markOn_31 (lv_at hl 0 rfl) ?_
          refine wi_ald hx hb hK hP 3 0 rfl rfl (k := k) (by omega) (by decide) dX0_markOn_33 ?_
          refine lv_iload_n hx hb dX0_markOn_34 rfl (lv_at hl 2 rfl) ?_
          refine lv_icmp_lt (tgt := 54) hx hb dX0_markOn_35 (by decide) (fun c35 => ?_) (fun c35 => ?_)
          · have n35 := Int32.not_le.mpr c35
            refine lv_iinc (v := nI (k + 1)) (lv' := [(4, .int (nI (k + 1))), (2, .int ((mkF g day k).1)), (3, .int ((mkF g day k).2)), (0, .ref (a 2)), (1, .int day)]) hx hb dX0_markOn_54 hl (k := 0) rfl (nI_1 k) (by decide) rfl (fun ls hl => ?_)
            refine lv_goto (tgt := 7) hx hb dX0_markOn_57 (by decide) ?_
            exact ih (k + 1) (by omega) (by omega) (by omega) _ _ (by simp [mkF, c13, n13, c24, n24, c35, n35]) (by simp [mkF, c13, n13, c24, n24, c35, n35]) ls (lv_sub hl [0, 1, 2, 3, 4] rfl)
          · have n35 := Int32.not_lt.mp c35
            refine lv_aload_n hx hb dX0_markOn_38 rfl (lv_at hl 3 rfl) ?_
            refine va_get (D := (dC, dI)) (ci := 0) (v := .ref (a 3)) (C := RX0) (T := TX0) (N := 3) hx hb hts (fun w h => List.mem_cons_of_mem _ (iw_X0 w h)) hown hK hP 2 rfl rfl 0 (by decide) (hts _ (List.mem_cons_of_mem _ fl_X0_days)) (fun _ h9 => h9) rfl dX0_markOn_39 ?_
            refine lv_iload hx hb dX0_markOn_42 (lv_at hl 0 rfl) ?_
            refine wi_ald hx hb hK hP 3 0 rfl rfl (k := k) (by omega) (by decide) dX0_markOn_44 ?_
            refine lv_istore_n (lv' := [(3, .int (g 1 k)), (4, .int (nI k)), (2, .int ((mkF g day k).1)), (0, .ref (a 2)), (1, .int day)]) hx hb dX0_markOn_45 rfl hl (by decide) rfl (fun ls hl => ?_)
            refine lv_aload_n hx hb dX0_markOn_46 rfl (lv_at hl 3 rfl) ?_
            refine va_get (D := (dC, dI)) (ci := 0) (v := .ref (a 4)) (C := RX0) (T := TX0) (N := 3) hx hb hts (fun w h => List.mem_cons_of_mem _ (iw_X0 w h)) hown hK hP 2 rfl rfl 1 (by decide) (hts _ (List.mem_cons_of_mem _ fl_X0_limits)) (fun _ h9 => h9) rfl dX0_markOn_47 ?_
            refine lv_iload hx hb dX0_markOn_50 (lv_at hl 1 rfl) ?_
            refine wi_ald hx hb hK hP 4 0 rfl rfl (k := k) (by omega) (by decide) dX0_markOn_52 ?_
            refine lv_istore_n (lv' := [(2, .int (g 2 k)), (3, .int (g 1 k)), (4, .int (nI k)), (0, .ref (a 2)), (1, .int day)]) hx hb dX0_markOn_53 rfl hl (by decide) rfl (fun ls hl => ?_)
            refine lv_iinc (v := nI (k + 1)) (lv' := [(4, .int (nI (k + 1))), (2, .int (g 2 k)), (3, .int (g 1 k)), (0, .ref (a 2)), (1, .int day)]) hx hb dX0_markOn_54 hl (k := 2) rfl (nI_1 k) (by decide) rfl (fun ls hl => ?_)
            refine lv_goto (tgt := 7) hx hb dX0_markOn_57 (by decide) ?_
            exact ih (k + 1) (by omega) (by omega) (by omega) _ _ (by simp [mkF, c13, n13, c24, n24, c35, n35]) (by simp [mkF, c13, n13, c24, n24, c35, n35]) ls (lv_sub hl [0, 1, 2, 3, 4] rfl)
  exact lp (nd + 1) 0 (by omega) (by omega) (by omega) _ _ (rfl) (rfl) ls (lv_sub hl [0, 2, 1, 3, 4] rfl)
set_option maxHeartbeats 4000000 in
set_option maxRecDepth 100000 in
theorem c_last (l : Launch) (dC : Nat → ClassId) (dI : Nat → Nat → Nat) (cI cZ cJ : ClassId) (a : Nat → Nat) (v : Nat → Int32) (g : Nat → Nat → Int32) (nd : Nat) (hnd : v 4 = nI nd) (hnd2 : nd ≤ 6) (j : Nat) (hj : j < nd) : Met l yX0_isLastOfItsDay wsX0_isLastOfItsDay ({ frames := 0, cells := 0, slots := 0, locals := 0 }) (va_Pc [.ref (a 2), .int (nI j)] (fun U => va_P (dC, dI) clA (wA cI cZ a v g) U.heap ∧ va_K (dC, dI) clA (tyA cI cZ cJ) U)) (vp_Si (fun r => r = bI (lastB g nd j))) 0 0 (fun _ => False) := by
  refine Met.ofW (cc := cX0_isLastOfItsDay) (maxL := 3) (ret := (some .boolean)) (by decide) rfl ?_
  intro p e s m args below meth c s₁ B hml hv
  obtain ⟨rfl, hP, hK⟩ := hv
  have hx := B.exec
  have hb := B.bytes
  have hr := B.returns
  have hts := atoms_spec (ws := wsX0_isLastOfItsDay) B.pre
  have hown : s.vm.findClass RX0 = some m.cls := findClass_of_methodNamed B.named
  have hlocks := B.notSynchronized
  have hl := lv_entry ([.ref (a 2), .int (nI j)]) (n := 3) (Nat.le_of_ble_eq_true rfl)
  rw [lg_entry_eq]
  generalize (lg_sl ([.ref (a 2), .int (nI j)]) ++ List.replicate (3 - (lg_sl ([.ref (a 2), .int (nI j)])).length) Slot.unset).toArray = ls at hl ⊢
  have hl : lv_has ls 3 [(0, .ref (a 2)), (1, .int (nI j))] := hl
  refine lv_iload_n hx hb dX0_isLastOfItsDay_0 rfl (lv_at hl 1 rfl) ?_
  refine lv_iconst (v := 1) hx hb dX0_isLastOfItsDay_1 (by decide) ?_
  refine lv_iadd hx hb dX0_isLastOfItsDay_2 ?_
  rw [nI_1 j]
  refine lv_istore_n (lv' := [(2, .int (nI (j + 1))), (0, .ref (a 2)), (1, .int (nI j))]) hx hb dX0_isLastOfItsDay_3 rfl hl (by decide) rfl (fun ls hl => ?_)
  have lp : ∀ (d k : Nat), j + 1 ≤ k → k ≤ nd → nd + 1 ≤ k + d → (∀ i, i < k → j < i → ¬ g 1 i = g 1 j) → ∀ (ls : Array Slot), lv_has ls 3 [(2, .int (nI k)), (0, .ref (a 2)), (1, .int (nI j))] → W p l e (headSpec wsX0_isLastOfItsDay ({ frames := 0, cells := 0, slots := 0, locals := 0 })).room s m ([.ref (a 2), .int (nI j)] : List Value).toArray below meth c s.heap [] 0 0 (MQ below (vp_Si (fun r => r = bI (lastB g nd j))) ([.ref (a 2), .int (nI j)] : List Value).toArray s 0 0 (fun _ => False)) (F0 m 4 ls []) := by
    intro d
    induction d with
    | zero => intro k h0 h1 h2; exact absurd h2 (by omega)
    | succ d ih =>
      intro k hk0 hkn hkd hall ls hl
      refine lv_iload_n hx hb dX0_isLastOfItsDay_4 rfl (lv_at hl 0 rfl) ?_
      refine lv_aload_n hx hb dX0_isLastOfItsDay_5 rfl (lv_at hl 1 rfl) ?_
      refine va_get (D := (dC, dI)) (ci := 0) (v := .int (v 4)) (C := RX0) (T := TX0) (N := 3) hx hb hts (fun w h => List.mem_cons_of_mem _ (iw_X0 w h)) hown hK hP 2 rfl rfl 2 (by decide) (hts _ (List.mem_cons_of_mem _ fl_X0_size)) (fun _ h9 => h9) rfl dX0_isLastOfItsDay_6 ?_
      refine lv_icmp_ge (tgt := 35) hx hb dX0_isLastOfItsDay_9 (by decide) (fun c9 => ?_) (fun c9 => ?_)
      · have n9 := Int32.not_lt.mpr c9
        rw [hnd] at c9
        have hkn2 : k = nd := Nat.le_antisymm hkn ((nI_leI (by omega) (by omega)).mp c9)
        refine lv_iconst (v := 1) hx hb dX0_isLastOfItsDay_35 (by decide) ?_
        exact W.zret (v := 1) hx hb hr rfl (fun t ht hW => ⟨_, rfl, (by subst hkn2; rw [show lastB g k j = true from decide_eq_true hall]; rfl), ht⟩) (fun _ h => absurd h List.not_mem_nil) dX0_isLastOfItsDay_36
      · have n9 := Int32.not_le.mp c9
        rw [hnd] at c9
        have hk : k < nd := Nat.lt_of_not_le (fun h => c9 (nI_le h (by omega)))
        refine lv_aload_n hx hb dX0_isLastOfItsDay_12 rfl (lv_at hl 1 rfl) ?_
        refine va_get (D := (dC, dI)) (ci := 0) (v := .ref (a 3)) (C := RX0) (T := TX0) (N := 3) hx hb hts (fun w h => List.mem_cons_of_mem _ (iw_X0 w h)) hown hK hP 2 rfl rfl 0 (by decide) (hts _ (List.mem_cons_of_mem _ fl_X0_days)) (fun _ h9 => h9) rfl dX0_isLastOfItsDay_13 ?_
        refine lv_iload_n hx hb dX0_isLastOfItsDay_16 rfl (lv_at hl 0 rfl) ?_
        refine wi_ald hx hb hK hP 3 0 rfl rfl (k := k) (by omega) (by decide) dX0_isLastOfItsDay_17 ?_
        refine lv_aload_n hx hb dX0_isLastOfItsDay_18 rfl (lv_at hl 1 rfl) ?_
        refine va_get (D := (dC, dI)) (ci := 0) (v := .ref (a 3)) (C := RX0) (T := TX0) (N := 3) hx hb hts (fun w h => List.mem_cons_of_mem _ (iw_X0 w h)) hown hK hP 2 rfl rfl 0 (by decide) (hts _ (List.mem_cons_of_mem _ fl_X0_days)) (fun _ h9 => h9) rfl dX0_isLastOfItsDay_19 ?_
        refine lv_iload_n hx hb dX0_isLastOfItsDay_22 rfl (lv_at hl 2 rfl) ?_
        refine wi_ald hx hb hK hP 3 0 rfl rfl (k := j) (by omega) (by decide) dX0_isLastOfItsDay_23 ?_
        refine lv_icmp_ne (tgt := 29) hx hb dX0_isLastOfItsDay_24 (by decide) (fun c24 => ?_) (fun c24 => ?_)
        · refine lv_iinc (v := nI (k + 1)) (lv' := [(2, .int (nI (k + 1))), (0, .ref (a 2)), (1, .int (nI j))]) hx hb dX0_isLastOfItsDay_29 hl (k := 0) rfl (nI_1 k) (by decide) rfl (fun ls hl => ?_)
          refine lv_goto (tgt := 4) hx hb dX0_isLastOfItsDay_32 (by decide) ?_
          exact ih (k + 1) (by omega) (by omega) (by omega) (fun i h1 h2 => by rcases Nat.lt_or_ge i k with h | h; exact hall i h h2; rw [show i = k by omega]; exact c24) ls (lv_sub hl [0, 1, 2] rfl)
        · refine lv_iconst (v := 0) hx hb dX0_isLastOfItsDay_27 (by decide) ?_
          exact W.zret (v := 0) hx hb hr rfl (fun t ht hW => ⟨_, rfl, (by rw [not_last g hk (by omega) c24]; rfl), ht⟩) (fun _ h => absurd h List.not_mem_nil) dX0_isLastOfItsDay_28
  exact lp (nd + 1) (j + 1) (by omega) (by omega) (by omega) (fun i h1 h2 => absurd h1 (by omega)) ls (lv_sub hl [0, 1, 2] rfl)
set_option maxHeartbeats 4000000 in
set_option maxRecDepth 100000 in
theorem c_changes (l : Launch) (dC : Nat → ClassId) (dI : Nat → Nat → Nat) (cI cZ cJ : ClassId) (a : Nat → Nat) (v : Nat → Int32) (g : Nat → Nat → Int32)  (nd : Nat) (hnd : v 4 = nI nd) (hnd2 : nd ≤ 6) (f t : Int32) : Met l yX0_changes wsX0_changes ({ frames := 1, cells := 0, slots := 0, locals := 24 }) (va_Pc [.ref (a 2), .int f, .int t] (fun U => va_P (dC, dI) clA (wA cI cZ a v g) U.heap ∧ va_K (dC, dI) clA (tyA cI cZ cJ) U)) (vp_Si (fun r => r = cnt (fun i => chgB g nd f t i) nd)) 0 0 (fun _ => False) := by
  refine Met.ofW (cc := cX0_changes) (maxL := 7) (ret := (some .int)) (by decide) rfl ?_
  intro p e s m args below meth c s₁ B hml hv
  obtain ⟨rfl, hP, hK⟩ := hv
  have hx := B.exec
  have hb := B.bytes
  have hr := B.returns
  have hts := atoms_spec (ws := wsX0_changes) B.pre
  have hown : s.vm.findClass RX0 = some m.cls := findClass_of_methodNamed B.named
  have hlocks := B.notSynchronized
  have hl := lv_entry ([.ref (a 2), .int f, .int t]) (n := 7) (Nat.le_of_ble_eq_true rfl)
  rw [lg_entry_eq]
  generalize (lg_sl ([.ref (a 2), .int f, .int t]) ++ List.replicate (7 - (lg_sl ([.ref (a 2), .int f, .int t])).length) Slot.unset).toArray = ls at hl ⊢
  have hl : lv_has ls 7 [(0, .ref (a 2)), (1, .int f), (2, .int t)] := hl
  refine lv_iconst (v := 0) hx hb dX0_changes_0 (by decide) ?_
  refine lv_istore_n (lv' := [(3, .int 0), (0, .ref (a 2)), (1, .int f), (2, .int t)]) hx hb dX0_changes_1 rfl hl (by decide) rfl (fun ls hl => ?_)
  refine lv_iconst (v := 0) hx hb dX0_changes_2 (by decide) ?_
  refine lv_istore (lv' := [(4, .int 0), (3, .int 0), (0, .ref (a 2)), (1, .int f), (2, .int t)]) hx hb dX0_changes_3 hl (by decide) rfl (fun ls hl => ?_)
  have lp : ∀ (d k : Nat), 0 ≤ k → k ≤ nd → nd + 1 ≤ k + d → ∀ (acc : Int32), acc = cnt (fun i => chgB g nd f t i) k → ∀ (ls : Array Slot), lv_has ls 7 [(4, .int (nI k)), (3, .int acc), (0, .ref (a 2)), (1, .int f), (2, .int t)] → W p l e (headSpec wsX0_changes ({ frames := 1, cells := 0, slots := 0, locals := 24 })).room s m ([.ref (a 2), .int f, .int t] : List Value).toArray below meth c s.heap [] 0 0 (MQ below (vp_Si (fun r => r = cnt (fun i => chgB g nd f t i) nd)) ([.ref (a 2), .int f, .int t] : List Value).toArray s 0 0 (fun _ => False)) (F0 m 5 ls []) := by
    intro d
    induction d with
    | zero => intro k h0 h1 h2; exact absurd h2 (by omega)
    | succ d ih =>
      intro k hk0 hkn hkd acc ea_acc ls hl
      subst ea_acc
      refine lv_iload hx hb dX0_changes_5 (lv_at hl 0 rfl) ?_
      refine lv_aload_n hx hb dX0_changes_7 rfl (lv_at hl 2 rfl) ?_
      refine va_get (D := (dC, dI)) (ci := 0) (v := .int (v 4)) (C := RX0) (T := TX0) (N := 3) hx hb hts (fun w h => List.mem_cons_of_mem _ (iw_X0 w h)) hown hK hP 2 rfl rfl 2 (by decide) (hts _ (List.mem_cons_of_mem _ fl_X0_size)) (fun _ h9 => h9) rfl dX0_changes_8 ?_
      refine lv_icmp_ge (tgt := 82) hx hb dX0_changes_11 (by decide) (fun c11 => ?_) (fun c11 => ?_)
      · have n11 := Int32.not_lt.mpr c11
        rw [hnd] at c11
        have hkn2 : k = nd := Nat.le_antisymm hkn ((nI_leI (by omega) (by omega)).mp c11)
        refine lv_iload_n hx hb dX0_changes_82 rfl (lv_at hl 1 rfl) ?_
        exact W.iret (v := cnt (fun i => chgB g nd f t i) k) hx hb hr (fun t ht hW => ⟨_, rfl, (by subst hkn2; rfl), ht⟩) (fun _ h => absurd h List.not_mem_nil) dX0_changes_83
      · have n11 := Int32.not_le.mp c11
        rw [hnd] at c11
        have hk : k < nd := Nat.lt_of_not_le (fun h => c11 (nI_le h (by omega)))
        refine lv_aload_n hx hb dX0_changes_14 rfl (lv_at hl 2 rfl) ?_
        refine va_get (D := (dC, dI)) (ci := 0) (v := .ref (a 3)) (C := RX0) (T := TX0) (N := 3) hx hb hts (fun w h => List.mem_cons_of_mem _ (iw_X0 w h)) hown hK hP 2 rfl rfl 0 (by decide) (hts _ (List.mem_cons_of_mem _ fl_X0_days)) (fun _ h9 => h9) rfl dX0_changes_15 ?_
        refine lv_iload hx hb dX0_changes_18 (lv_at hl 0 rfl) ?_
        refine wi_ald hx hb hK hP 3 0 rfl rfl (k := k) (by omega) (by decide) dX0_changes_20 ?_
        refine lv_istore (lv' := [(5, .int (g 1 k)), (4, .int (nI k)), (3, .int (cnt (fun i => chgB g nd f t i) k)), (0, .ref (a 2)), (1, .int f), (2, .int t)]) hx hb dX0_changes_21 hl (by decide) rfl (fun ls hl => ?_)
        refine lv_iload hx hb dX0_changes_23 (lv_at hl 0 rfl) ?_
        refine lv_iload_n hx hb dX0_changes_25 rfl (lv_at hl 4 rfl) ?_
        refine lv_icmp_le (tgt := 39) hx hb dX0_changes_26 (by decide) (fun c26 => ?_) (fun c26 => ?_)
        · have n26 := Int32.not_lt.mpr c26
          refine lv_iconst (v := 0) hx hb dX0_changes_39 (by decide) ?_
          refine lv_istore (lv' := [(6, .int 0), (5, .int (g 1 k)), (4, .int (nI k)), (3, .int (cnt (fun i => chgB g nd f t i) k)), (0, .ref (a 2)), (1, .int f), (2, .int t)]) hx hb dX0_changes_40 hl (by decide) rfl (fun ls hl => ?_)
          refine lv_iload hx hb dX0_changes_42 (lv_at hl 0 rfl) ?_
          refine lv_if_eq (tgt := 76) hx hb dX0_changes_44 (by decide) (fun c44 => ?_) (fun c44 => ?_)
          · refine lv_iinc (v := nI (k + 1)) (lv' := [(4, .int (nI (k + 1))), (6, .int 0), (5, .int (g 1 k)), (3, .int (cnt (fun i => chgB g nd f t i) k)), (0, .ref (a 2)), (1, .int f), (2, .int t)]) hx hb dX0_changes_76 hl (k := 2) rfl (nI_1 k) (by decide) rfl (fun ls hl => ?_)
            refine lv_goto (tgt := 5) hx hb dX0_changes_79 (by decide) ?_
            exact ih (k + 1) (by omega) (by omega) (by omega) _ (by simp [cnt_s, bI, chgB, c11, n11, c26, n26]) ls (lv_sub hl [0, 3, 4, 5, 6] rfl)
          · exact absurd c44 (by decide)
        · have n26 := Int32.not_le.mp c26
          refine lv_iload hx hb dX0_changes_29 (lv_at hl 0 rfl) ?_
          refine lv_iload_n hx hb dX0_changes_31 rfl (lv_at hl 5 rfl) ?_
          refine lv_icmp_gt (tgt := 39) hx hb dX0_changes_32 (by decide) (fun c32 => ?_) (fun c32 => ?_)
          · have n32 := Int32.not_le.mpr c32
            refine lv_iconst (v := 0) hx hb dX0_changes_39 (by decide) ?_
            refine lv_istore (lv' := [(6, .int 0), (5, .int (g 1 k)), (4, .int (nI k)), (3, .int (cnt (fun i => chgB g nd f t i) k)), (0, .ref (a 2)), (1, .int f), (2, .int t)]) hx hb dX0_changes_40 hl (by decide) rfl (fun ls hl => ?_)
            refine lv_iload hx hb dX0_changes_42 (lv_at hl 0 rfl) ?_
            refine lv_if_eq (tgt := 76) hx hb dX0_changes_44 (by decide) (fun c44 => ?_) (fun c44 => ?_)
            · refine lv_iinc (v := nI (k + 1)) (lv' := [(4, .int (nI (k + 1))), (6, .int 0), (5, .int (g 1 k)), (3, .int (cnt (fun i => chgB g nd f t i) k)), (0, .ref (a 2)), (1, .int f), (2, .int t)]) hx hb dX0_changes_76 hl (k := 2) rfl (nI_1 k) (by decide) rfl (fun ls hl => ?_)
              refine lv_goto (tgt := 5) hx hb dX0_changes_79 (by decide) ?_
              exact ih (k + 1) (by omega) (by omega) (by omega) _ (by simp [cnt_s, bI, chgB, c11, n11, c26, n26, c32, n32]) ls (lv_sub hl [0, 3, 4, 5, 6] rfl)
            · exact absurd c44 (by decide)
          · have n32 := Int32.not_lt.mp c32
            refine lv_iconst (v := 1) hx hb dX0_changes_35 (by decide) ?_
            refine lv_goto (tgt := 40) hx hb dX0_changes_36 (by decide) ?_
            refine lv_istore (lv' := [(6, .int 1), (5, .int (g 1 k)), (4, .int (nI k)), (3, .int (cnt (fun i => chgB g nd f t i) k)), (0, .ref (a 2)), (1, .int f), (2, .int t)]) hx hb dX0_changes_40 hl (by decide) rfl (fun ls hl => ?_)
            refine lv_iload hx hb dX0_changes_42 (lv_at hl 0 rfl) ?_
            refine lv_if_eq (tgt := 76) hx hb dX0_changes_44 (by decide) (fun c44 => ?_) (fun c44 => ?_)
            · exact absurd c44 (by decide)
            · refine lv_aload_n hx hb dX0_changes_47 rfl (lv_at hl 4 rfl) ?_
              refine lv_iload hx hb dX0_changes_48 (lv_at hl 2 rfl) ?_
              refine vp_callSi (W.runV (As := [.int (nI k)]) (rest := []) ⟨hx, hb, hml, hown, hts⟩ (c_last l dC dI cI cZ cJ a v g nd hnd hnd2 k (by omega)) (cwV 1 hts (gd_V ml_X0_X0_isLastOfItsDay im_X0_isLastOfItsDay se_X0_isLastOfItsDay in_X0 kX0_isLastOfItsDay) rfl rfl rfl (by decide +kernel) ⟨Nat.le_of_ble_eq_true rfl, Nat.le_of_ble_eq_true rfl⟩) ⟨fun _ U g mk q => by obtain ⟨q0, qP, qK⟩ := q; exact ⟨q0, qP, va_K.moved (u := U) (U := U.calling g mk _) (Vm.Alike.refl U.vm) qK⟩, va_recv hK hP (ci := 0) (q0 := 2) rfl rfl, fun U hU hW => ⟨rfl, by rw [hU]; exact hP, va_K.moved hW.alike hK⟩⟩ rfl rfl hl.1 rfl (lv_room (Nat.le_of_ble_eq_true rfl)) dX0_changes_50 ⟨Nat.zero_le _, Nat.zero_le _⟩) (fun r50 hr50 => ?_)
              subst hr50
              refine lv_if_eq (tgt := 76) hx hb dX0_changes_53 (by decide) (fun c53 => ?_) (fun c53 => ?_)
              · have c53 := bI_0.mp c53
                refine lv_iinc (v := nI (k + 1)) (lv' := [(4, .int (nI (k + 1))), (6, .int 1), (5, .int (g 1 k)), (3, .int (cnt (fun i => chgB g nd f t i) k)), (0, .ref (a 2)), (1, .int f), (2, .int t)]) hx hb dX0_changes_76 hl (k := 2) rfl (nI_1 k) (by decide) rfl (fun ls hl => ?_)
                refine lv_goto (tgt := 5) hx hb dX0_changes_79 (by decide) ?_
                exact ih (k + 1) (by omega) (by omega) (by omega) _ (by simp [cnt_s, bI, chgB, c11, n11, c26, n26, c32, n32, c53]) ls (lv_sub hl [0, 3, 4, 5, 6] rfl)
              · have c53 := bI_n0.mp c53
                refine lv_aload_n hx hb dX0_changes_56 rfl (lv_at hl 4 rfl) ?_
                refine lv_iload hx hb dX0_changes_57 (lv_at hl 1 rfl) ?_
                refine vp_callSi (W.runV (As := [.int (g 1 k)]) (rest := []) ⟨hx, hb, hml, hown, hts⟩ (c_markOn l dC dI cI cZ cJ a v g nd hnd hnd2 (g 1 k)) (cwV 1 hts (gd_V ml_X0_X0_markOn im_X0_markOn se_X0_markOn in_X0 kX0_markOn) rfl rfl rfl (by decide +kernel) ⟨Nat.le_of_ble_eq_true rfl, Nat.le_of_ble_eq_true rfl⟩) ⟨fun _ U g mk q => by obtain ⟨q0, qP, qK⟩ := q; exact ⟨q0, qP, va_K.moved (u := U) (U := U.calling g mk _) (Vm.Alike.refl U.vm) qK⟩, va_recv hK hP (ci := 0) (q0 := 2) rfl rfl, fun U hU hW => ⟨rfl, by rw [hU]; exact hP, va_K.moved hW.alike hK⟩⟩ rfl rfl hl.1 rfl (lv_room (Nat.le_of_ble_eq_true rfl)) dX0_changes_59 ⟨Nat.zero_le _, Nat.zero_le _⟩) (fun r59 hr59 => ?_)
                subst hr59
                refine lv_aload_n hx hb dX0_changes_62 rfl (lv_at hl 4 rfl) ?_
                refine lv_iload hx hb dX0_changes_63 (lv_at hl 1 rfl) ?_
                refine lv_iconst (v := 1) hx hb dX0_changes_65 (by decide) ?_
                refine lv_isub hx hb dX0_changes_66 ?_
                refine vp_callSi (W.runV (As := [.int ((g 1 k) - 1)]) (rest := [.int (mkOn g nd (g 1 k))]) ⟨hx, hb, hml, hown, hts⟩ (c_markOn l dC dI cI cZ cJ a v g nd hnd hnd2 ((g 1 k) - 1)) (cwV 1 hts (gd_V ml_X0_X0_markOn im_X0_markOn se_X0_markOn in_X0 kX0_markOn) rfl rfl rfl (by decide +kernel) ⟨Nat.le_of_ble_eq_true rfl, Nat.le_of_ble_eq_true rfl⟩) ⟨fun _ U g mk q => by obtain ⟨q0, qP, qK⟩ := q; exact ⟨q0, qP, va_K.moved (u := U) (U := U.calling g mk _) (Vm.Alike.refl U.vm) qK⟩, va_recv hK hP (ci := 0) (q0 := 2) rfl rfl, fun U hU hW => ⟨rfl, by rw [hU]; exact hP, va_K.moved hW.alike hK⟩⟩ rfl rfl hl.1 rfl (lv_room (Nat.le_of_ble_eq_true rfl)) dX0_changes_67 ⟨Nat.zero_le _, Nat.zero_le _⟩) (fun r67 hr67 => ?_)
                subst hr67
                refine lv_icmp_eq (tgt := 76) hx hb dX0_changes_70 (by decide) (fun c70 => ?_) (fun c70 => ?_)
                · refine lv_iinc (v := nI (k + 1)) (lv' := [(4, .int (nI (k + 1))), (6, .int 1), (5, .int (g 1 k)), (3, .int (cnt (fun i => chgB g nd f t i) k)), (0, .ref (a 2)), (1, .int f), (2, .int t)]) hx hb dX0_changes_76 hl (k := 2) rfl (nI_1 k) (by decide) rfl (fun ls hl => ?_)
                  refine lv_goto (tgt := 5) hx hb dX0_changes_79 (by decide) ?_
                  exact ih (k + 1) (by omega) (by omega) (by omega) _ (by simp [cnt_s, bI, chgB, c11, n11, c26, n26, c32, n32, c53, c70]) ls (lv_sub hl [0, 3, 4, 5, 6] rfl)
                · refine lv_iinc (v := (cnt (fun i => chgB g nd f t i) k) + 1) (lv' := [(3, .int ((cnt (fun i => chgB g nd f t i) k) + 1)), (6, .int 1), (5, .int (g 1 k)), (4, .int (nI k)), (0, .ref (a 2)), (1, .int f), (2, .int t)]) hx hb dX0_changes_73 hl (k := 3) rfl rfl (by decide) rfl (fun ls hl => ?_)
                  refine lv_iinc (v := nI (k + 1)) (lv' := [(4, .int (nI (k + 1))), (3, .int ((cnt (fun i => chgB g nd f t i) k) + 1)), (6, .int 1), (5, .int (g 1 k)), (0, .ref (a 2)), (1, .int f), (2, .int t)]) hx hb dX0_changes_76 hl (k := 3) rfl (nI_1 k) (by decide) rfl (fun ls hl => ?_)
                  refine lv_goto (tgt := 5) hx hb dX0_changes_79 (by decide) ?_
                  exact ih (k + 1) (by omega) (by omega) (by omega) _ (by simp [cnt_s, bI, chgB, c11, n11, c26, n26, c32, n32, c53, c70]) ls (lv_sub hl [0, 1, 4, 5, 6] rfl)
  exact lp (nd + 1) 0 (by omega) (by omega) (by omega) _ (rfl) ls (lv_sub hl [0, 1, 2, 3, 4] rfl)
set_option maxHeartbeats 4000000 in
set_option maxRecDepth 100000 in
theorem c_total (l : Launch) (dC : Nat → ClassId) (dI : Nat → Nat → Nat) (cI cZ cJ : ClassId) (a : Nat → Nat) (v : Nat → Int32) (g : Nat → Nat → Int32)  (n : Nat) (hn : v 5 = nI n) (hn2 : n ≤ 200) (nd : Nat) (hnd : v 4 = nI nd) (hnd2 : nd ≤ 6) (w f t kd ar : Int32) : Met l yX1_total wsX1_total ({ frames := 4, cells := 0, slots := 0, locals := 88 }) (va_Pc [.ref (a 5), .int w, .ref (a 2), .int f, .int t, .int kd, .int ar] (fun U => va_P (dC, dI) clA (wA cI cZ a v g) U.heap ∧ va_K (dC, dI) clA (tyA cI cZ cJ) U)) (vp_Si (fun r => r = totI g n nd w f t kd ar)) 0 0 (fun _ => False) := by
  refine Met.ofW (cc := cX1_total) (maxL := 9) (ret := (some .int)) (by decide) rfl ?_
  intro p e s m args below meth c s₁ B hml hv
  obtain ⟨rfl, hP, hK⟩ := hv
  have hx := B.exec
  have hb := B.bytes
  have hr := B.returns
  have hts := atoms_spec (ws := wsX1_total) B.pre
  have hown : s.vm.findClass RX1 = some m.cls := findClass_of_methodNamed B.named
  have hlocks := B.notSynchronized
  have hl := lv_entry ([.ref (a 5), .int w, .ref (a 2), .int f, .int t, .int kd, .int ar]) (n := 9) (Nat.le_of_ble_eq_true rfl)
  rw [lg_entry_eq]
  generalize (lg_sl ([.ref (a 5), .int w, .ref (a 2), .int f, .int t, .int kd, .int ar]) ++ List.replicate (9 - (lg_sl ([.ref (a 5), .int w, .ref (a 2), .int f, .int t, .int kd, .int ar])).length) Slot.unset).toArray = ls at hl ⊢
  have hl : lv_has ls 9 [(0, .ref (a 5)), (1, .int w), (2, .ref (a 2)), (3, .int f), (4, .int t), (5, .int kd), (6, .int ar)] := hl
  refine lv_iconst (v := 0) hx hb dX1_total_0 (by decide) ?_
  refine lv_istore (lv' := [(7, .int 0), (0, .ref (a 5)), (1, .int w), (2, .ref (a 2)), (3, .int f), (4, .int t), (5, .int kd), (6, .int ar)]) hx hb dX1_total_1 hl (by decide) rfl (fun ls hl => ?_)
  refine lv_iconst (v := 0) hx hb dX1_total_3 (by decide) ?_
  refine lv_istore (lv' := [(8, .int 0), (7, .int 0), (0, .ref (a 5)), (1, .int w), (2, .ref (a 2)), (3, .int f), (4, .int t), (5, .int kd), (6, .int ar)]) hx hb dX1_total_4 hl (by decide) rfl (fun ls hl => ?_)
  have lp : ∀ (d k : Nat), 0 ≤ k → k ≤ n → n + 1 ≤ k + d → ∀ (acc : Int32), acc = isum (fun i => if askB g i f t kd ar = true then amt g i w (mkOn g nd (g 3 i)) else 0) k → ∀ (ls : Array Slot), lv_has ls 9 [(8, .int (nI k)), (7, .int acc), (0, .ref (a 5)), (1, .int w), (2, .ref (a 2)), (3, .int f), (4, .int t), (5, .int kd), (6, .int ar)] → W p l e (headSpec wsX1_total ({ frames := 4, cells := 0, slots := 0, locals := 88 })).room s m ([.ref (a 5), .int w, .ref (a 2), .int f, .int t, .int kd, .int ar] : List Value).toArray below meth c s.heap [] 0 0 (MQ below (vp_Si (fun r => r = totI g n nd w f t kd ar)) ([.ref (a 5), .int w, .ref (a 2), .int f, .int t, .int kd, .int ar] : List Value).toArray s 0 0 (fun _ => False)) (F0 m 6 ls []) := by
    intro d
    induction d with
    | zero => intro k h0 h1 h2; exact absurd h2 (by omega)
    | succ d ih =>
      intro k hk0 hkn hkd acc ea_acc ls hl
      subst ea_acc
      refine lv_iload hx hb dX1_total_6 (lv_at hl 0 rfl) ?_
      refine lv_aload_n hx hb dX1_total_8 rfl (lv_at hl 2 rfl) ?_
      refine va_get (D := (dC, dI)) (ci := 1) (v := .int (v 5)) (C := RX1) (T := TX1) (N := 10) hx hb hts (fun w h => List.mem_cons_of_mem _ (iw_X1 w h)) hown hK hP 5 rfl rfl 9 (by decide) (hts _ (List.mem_cons_of_mem _ fl_X1_size)) (fun _ h9 => h9) rfl dX1_total_9 ?_
      refine lv_icmp_ge (tgt := 60) hx hb dX1_total_12 (by decide) (fun c12 => ?_) (fun c12 => ?_)
      · have n12 := Int32.not_lt.mpr c12
        rw [hn] at c12
        have hkn2 : k = n := Nat.le_antisymm hkn ((nI_leI (by omega) (by omega)).mp c12)
        refine lv_iload hx hb dX1_total_60 (lv_at hl 1 rfl) ?_
        exact W.iret (v := isum (fun i => if askB g i f t kd ar = true then amt g i w (mkOn g nd (g 3 i)) else 0) k) hx hb hr (fun t ht hW => ⟨_, rfl, (by subst hkn2; rfl), ht⟩) (fun _ h => absurd h List.not_mem_nil) dX1_total_62
      · have n12 := Int32.not_le.mp c12
        rw [hn] at c12
        have hk : k < n := Nat.lt_of_not_le (fun h => c12 (nI_le h (by omega)))
        refine lv_aload_n hx hb dX1_total_15 rfl (lv_at hl 2 rfl) ?_
        refine lv_iload hx hb dX1_total_16 (lv_at hl 0 rfl) ?_
        refine lv_iload_n hx hb dX1_total_18 rfl (lv_at hl 5 rfl) ?_
        refine lv_iload hx hb dX1_total_19 (lv_at hl 6 rfl) ?_
        refine lv_iload hx hb dX1_total_21 (lv_at hl 7 rfl) ?_
        refine lv_iload hx hb dX1_total_23 (lv_at hl 8 rfl) ?_
        refine vp_callSi (W.runV (As := [.int (nI k), .int f, .int t, .int kd, .int ar]) (rest := []) ⟨hx, hb, hml, hown, hts⟩ (c_isAsked l dC dI cI cZ cJ a v g k f t kd ar (by omega)) (cwV 5 hts (gd_V ml_X1_X1_isAsked im_X1_isAsked se_X1_isAsked in_X1 kX1_isAsked) rfl rfl rfl (by decide +kernel) ⟨Nat.le_of_ble_eq_true rfl, Nat.le_of_ble_eq_true rfl⟩) ⟨fun _ U g mk q => by obtain ⟨q0, qP, qK⟩ := q; exact ⟨q0, qP, va_K.moved (u := U) (U := U.calling g mk _) (Vm.Alike.refl U.vm) qK⟩, va_recv hK hP (ci := 1) (q0 := 5) rfl rfl, fun U hU hW => ⟨rfl, by rw [hU]; exact hP, va_K.moved hW.alike hK⟩⟩ rfl rfl hl.1 rfl (lv_room (Nat.le_of_ble_eq_true rfl)) dX1_total_25 ⟨Nat.zero_le _, Nat.zero_le _⟩) (fun r25 hr25 => ?_)
        subst hr25
        refine lv_if_eq (tgt := 54) hx hb dX1_total_28 (by decide) (fun c28 => ?_) (fun c28 => ?_)
        · have c28 := bI_0.mp c28
          refine lv_iinc (v := nI (k + 1)) (lv' := [(8, .int (nI (k + 1))), (7, .int (isum (fun i => if askB g i f t kd ar = true then amt g i w (mkOn g nd (g 3 i)) else 0) k)), (0, .ref (a 5)), (1, .int w), (2, .ref (a 2)), (3, .int f), (4, .int t), (5, .int kd), (6, .int ar)]) hx hb dX1_total_54 hl (k := 0) rfl (nI_1 k) (by decide) rfl (fun ls hl => ?_)
          refine lv_goto (tgt := 6) hx hb dX1_total_57 (by decide) ?_
          exact ih (k + 1) (by omega) (by omega) (by omega) _ (by simp [isum_s, c12, n12, c28]) ls (lv_sub hl [0, 1, 2, 3, 4, 5, 6, 7, 8] rfl)
        · have c28 := bI_n0.mp c28
          refine lv_iload hx hb dX1_total_31 (lv_at hl 1 rfl) ?_
          refine lv_aload_n hx hb dX1_total_33 rfl (lv_at hl 2 rfl) ?_
          refine lv_iload hx hb dX1_total_34 (lv_at hl 0 rfl) ?_
          refine lv_iload_n hx hb dX1_total_36 rfl (lv_at hl 3 rfl) ?_
          refine lv_aload_n hx hb dX1_total_37 rfl (lv_at hl 4 rfl) ?_
          refine lv_aload_n hx hb dX1_total_38 rfl (lv_at hl 2 rfl) ?_
          refine va_get (D := (dC, dI)) (ci := 1) (v := .ref (a 6)) (C := RX1) (T := TX1) (N := 10) hx hb hts (fun w h => List.mem_cons_of_mem _ (iw_X1 w h)) hown hK hP 5 rfl rfl 0 (by decide) (hts _ (List.mem_cons_of_mem _ fl_X1_days)) (fun _ h9 => h9) rfl dX1_total_39 ?_
          refine lv_iload hx hb dX1_total_42 (lv_at hl 0 rfl) ?_
          refine wi_ald hx hb hK hP 6 0 rfl rfl (k := k) (by omega) (by decide) dX1_total_44 ?_
          refine vp_callSi (W.runV (As := [.int (g 3 k)]) (rest := [.int w, .int (nI k), .ref (a 5), .int (isum (fun i => if askB g i f t kd ar = true then amt g i w (mkOn g nd (g 3 i)) else 0) k)]) ⟨hx, hb, hml, hown, hts⟩ (c_markOn l dC dI cI cZ cJ a v g nd hnd hnd2 (g 3 k)) (cwV 1 hts (gd_V ml_X1_X0_markOn im_X0_markOn se_X0_markOn in_X0 kX0_markOn) rfl rfl rfl (by decide +kernel) ⟨Nat.le_of_ble_eq_true rfl, Nat.le_of_ble_eq_true rfl⟩) ⟨fun _ U g mk q => by obtain ⟨q0, qP, qK⟩ := q; exact ⟨q0, qP, va_K.moved (u := U) (U := U.calling g mk _) (Vm.Alike.refl U.vm) qK⟩, va_recv hK hP (ci := 0) (q0 := 2) rfl rfl, fun U hU hW => ⟨rfl, by rw [hU]; exact hP, va_K.moved hW.alike hK⟩⟩ rfl rfl hl.1 rfl (lv_room (Nat.le_of_ble_eq_true rfl)) dX1_total_45 ⟨Nat.zero_le _, Nat.zero_le _⟩) (fun r45 hr45 => ?_)
          subst hr45
          refine vp_callSi (W.runV (As := [.int (nI k), .int w, .int (mkOn g nd (g 3 k))]) (rest := [.int (isum (fun i => if askB g i f t kd ar = true then amt g i w (mkOn g nd (g 3 i)) else 0) k)]) ⟨hx, hb, hml, hown, hts⟩ (c_amount l dC dI cI cZ cJ a v g k w (mkOn g nd (g 3 k)) (by omega)) (cwV 3 hts (gd_V ml_X1_X1_amount im_X1_amount se_X1_amount in_X1 kX1_amount) rfl rfl rfl (by decide +kernel) ⟨Nat.le_of_ble_eq_true rfl, Nat.le_of_ble_eq_true rfl⟩) ⟨fun _ U g mk q => by obtain ⟨q0, qP, qK⟩ := q; exact ⟨q0, qP, va_K.moved (u := U) (U := U.calling g mk _) (Vm.Alike.refl U.vm) qK⟩, va_recv hK hP (ci := 1) (q0 := 5) rfl rfl, fun U hU hW => ⟨rfl, by rw [hU]; exact hP, va_K.moved hW.alike hK⟩⟩ rfl rfl hl.1 rfl (lv_room (Nat.le_of_ble_eq_true rfl)) dX1_total_48 ⟨Nat.zero_le _, Nat.zero_le _⟩) (fun r48 hr48 => ?_)
          subst hr48
          refine lv_iadd hx hb dX1_total_51 ?_
          refine lv_topi (fun x51 e51 => ?_)
          refine lv_istore (lv' := [(7, .int x51), (8, .int (nI k)), (0, .ref (a 5)), (1, .int w), (2, .ref (a 2)), (3, .int f), (4, .int t), (5, .int kd), (6, .int ar)]) hx hb dX1_total_52 hl (by decide) rfl (fun ls hl => ?_)
          refine lv_iinc (v := nI (k + 1)) (lv' := [(8, .int (nI (k + 1))), (7, .int x51), (0, .ref (a 5)), (1, .int w), (2, .ref (a 2)), (3, .int f), (4, .int t), (5, .int kd), (6, .int ar)]) hx hb dX1_total_54 hl (k := 1) rfl (nI_1 k) (by decide) rfl (fun ls hl => ?_)
          refine lv_goto (tgt := 6) hx hb dX1_total_57 (by decide) ?_
          exact ih (k + 1) (by omega) (by omega) (by omega) _ (by simp [isum_s, c12, n12, c28, e51]) ls (lv_sub hl [0, 1, 2, 3, 4, 5, 6, 7, 8] rfl)
  exact lp (n + 1) 0 (by omega) (by omega) (by omega) _ (rfl) ls (lv_sub hl [0, 1, 2, 3, 4, 5, 6, 7, 8] rfl)
set_option maxHeartbeats 4000000 in
set_option maxRecDepth 100000 in
theorem c_taken (l : Launch) (dC : Nat → ClassId) (dI : Nat → Nat → Nat) (cI cZ cJ : ClassId) (a : Nat → Nat) (v : Nat → Int32) (g : Nat → Nat → Int32) (x t : Int32) : Met l yX3_isTaken wsX3_isTaken ({ frames := 0, cells := 0, slots := 0, locals := 0 }) (va_Pc [.int x, .int t] (fun U => va_P (dC, dI) clA (wA cI cZ a v g) U.heap ∧ va_K (dC, dI) clA (tyA cI cZ cJ) U)) (vp_Si (fun r => r = bI (takB x t))) 0 0 (fun _ => False) := by
  refine Met.ofW (cc := cX3_isTaken) (maxL := 2) (ret := (some .boolean)) (by decide) rfl ?_
  intro p e s m args below meth c s₁ B hml hv
  obtain ⟨rfl, hP, hK⟩ := hv
  have hx := B.exec
  have hb := B.bytes
  have hr := B.returns
  have hts := atoms_spec (ws := wsX3_isTaken) B.pre
  have hown : s.vm.findClass RX3 = some m.cls := findClass_of_methodNamed B.named
  have hlocks := B.notSynchronized
  have hl := lv_entry ([.int x, .int t]) (n := 2) (Nat.le_of_ble_eq_true rfl)
  rw [lg_entry_eq]
  generalize (lg_sl ([.int x, .int t]) ++ List.replicate (2 - (lg_sl ([.int x, .int t])).length) Slot.unset).toArray = ls at hl ⊢
  have hl : lv_has ls 2 [(0, .int x), (1, .int t)] := hl
  refine lv_iload_n hx hb dX3_isTaken_0 rfl (lv_at hl 1 rfl) ?_
  refine lv_iload_n hx hb dX3_isTaken_1 rfl (lv_at hl 0 rfl) ?_
  refine lv_ishr hx hb dX3_isTaken_2 ?_
  refine lv_iconst (v := 1) hx hb dX3_isTaken_3 (by decide) ?_
  refine lv_iand hx hb dX3_isTaken_4 ?_
  refine lv_if_eq (tgt := 12) hx hb dX3_isTaken_5 (by decide) (fun c5 => ?_) (fun c5 => ?_)
  · refine lv_iconst (v := 0) hx hb dX3_isTaken_12 (by decide) ?_
    exact W.zret (v := 0) hx hb hr rfl (fun t ht hW => ⟨_, rfl, (by simp [bI, takB, c5]), ht⟩) (fun _ h => absurd h List.not_mem_nil) dX3_isTaken_13
  · refine lv_iconst (v := 1) hx hb dX3_isTaken_8 (by decide) ?_
    refine lv_goto (tgt := 13) hx hb dX3_isTaken_9 (by decide) ?_
    exact W.zret (v := 1) hx hb hr rfl (fun t ht hW => ⟨_, rfl, (by simp [bI, takB, c5]), ht⟩) (fun _ h => absurd h List.not_mem_nil) dX3_isTaken_13
set_option maxHeartbeats 4000000 in
set_option maxRecDepth 100000 in
theorem c_gain (l : Launch) (dC : Nat → ClassId) (dI : Nat → Nat → Nat) (cI cZ cJ : ClassId) (a : Nat → Nat) (v : Nat → Int32) (g : Nat → Nat → Int32) (pr : Int32) (np : Nat) (hnp : pr = nI np) (hnp2 : np ≤ 6) (j : Nat) (tk : Int32) (hj : j < 6) : Met l yX3_gain wsX3_gain ({ frames := 1, cells := 0, slots := 0, locals := 21 }) (va_Pc [.ref (a 16), .int pr, .int (nI j), .int tk] (fun U => va_P (dC, dI) clA (wA cI cZ a v g) U.heap ∧ va_K (dC, dI) clA (tyA cI cZ cJ) U)) (vp_Si (fun r => r = gainI g np j tk)) 0 0 (fun _ => False) := by
  refine Met.ofW (cc := cX3_gain) (maxL := 6) (ret := (some .int)) (by decide) rfl ?_
  intro p e s m args below meth c s₁ B hml hv
  obtain ⟨rfl, hP, hK⟩ := hv
  have hx := B.exec
  have hb := B.bytes
  have hr := B.returns
  have hts := atoms_spec (ws := wsX3_gain) B.pre
  have hown : s.vm.findClass RX3 = some m.cls := findClass_of_methodNamed B.named
  have hlocks := B.notSynchronized
  have hl := lv_entry ([.ref (a 16), .int pr, .int (nI j), .int tk]) (n := 6) (Nat.le_of_ble_eq_true rfl)
  rw [lg_entry_eq]
  generalize (lg_sl ([.ref (a 16), .int pr, .int (nI j), .int tk]) ++ List.replicate (6 - (lg_sl ([.ref (a 16), .int pr, .int (nI j), .int tk])).length) Slot.unset).toArray = ls at hl ⊢
  have hl : lv_has ls 6 [(0, .ref (a 16)), (1, .int pr), (2, .int (nI j)), (3, .int tk)] := hl
  refine lv_iconst (v := 0) hx hb dX3_gain_0 (by decide) ?_
  refine lv_istore (lv' := [(4, .int 0), (0, .ref (a 16)), (1, .int pr), (2, .int (nI j)), (3, .int tk)]) hx hb dX3_gain_1 hl (by decide) rfl (fun ls hl => ?_)
  refine lv_iconst (v := 0) hx hb dX3_gain_3 (by decide) ?_
  refine lv_istore (lv' := [(5, .int 0), (4, .int 0), (0, .ref (a 16)), (1, .int pr), (2, .int (nI j)), (3, .int tk)]) hx hb dX3_gain_4 hl (by decide) rfl (fun ls hl => ?_)
  have lp : ∀ (d k : Nat), 0 ≤ k → k ≤ np → np + 1 ≤ k + d → ∀ (acc : Int32), acc = isum (fun i => if takB (nI i) tk = true then icmp (g 12 j) (g 12 i) else 0) k → ∀ (ls : Array Slot), lv_has ls 6 [(5, .int (nI k)), (4, .int acc), (0, .ref (a 16)), (1, .int pr), (2, .int (nI j)), (3, .int tk)] → W p l e (headSpec wsX3_gain ({ frames := 1, cells := 0, slots := 0, locals := 21 })).room s m ([.ref (a 16), .int pr, .int (nI j), .int tk] : List Value).toArray below meth c s.heap [] 0 0 (MQ below (vp_Si (fun r => r = gainI g np j tk)) ([.ref (a 16), .int pr, .int (nI j), .int tk] : List Value).toArray s 0 0 (fun _ => False)) (F0 m 6 ls []) := by
    intro d
    induction d with
    | zero => intro k h0 h1 h2; exact absurd h2 (by omega)
    | succ d ih =>
      intro k hk0 hkn hkd acc ea_acc ls hl
      subst ea_acc
      refine lv_iload hx hb dX3_gain_6 (lv_at hl 0 rfl) ?_
      refine lv_iload_n hx hb dX3_gain_8 rfl (lv_at hl 3 rfl) ?_
      refine lv_icmp_ge (tgt := 42) hx hb dX3_gain_9 (by decide) (fun c9 => ?_) (fun c9 => ?_)
      · have n9 := Int32.not_lt.mpr c9
        rw [hnp] at c9
        have hkn2 : k = np := Nat.le_antisymm hkn ((nI_leI (by omega) (by omega)).mp c9)
        refine lv_iload hx hb dX3_gain_42 (lv_at hl 1 rfl) ?_
        exact W.iret (v := isum (fun i => if takB (nI i) tk = true then icmp (g 12 j) (g 12 i) else 0) k) hx hb hr (fun t ht hW => ⟨_, rfl, (by subst hkn2; rfl), ht⟩) (fun _ h => absurd h List.not_mem_nil) dX3_gain_44
      · have n9 := Int32.not_le.mp c9
        rw [hnp] at c9
        have hk : k < np := Nat.lt_of_not_le (fun h => c9 (nI_le h (by omega)))
        refine lv_iload hx hb dX3_gain_12 (lv_at hl 0 rfl) ?_
        refine lv_iload_n hx hb dX3_gain_14 rfl (lv_at hl 5 rfl) ?_
        refine vp_callSi (W.runS (As := [.int (nI k), .int tk]) (rest := []) ⟨hx, hb, hml, hown, hts⟩ (c_taken l dC dI cI cZ cJ a v g (nI k) tk) (cwS 2 hts (gd_S ml_X3_X3_isTaken sm_X3_isTaken in_X3 kX3_isTaken) rfl rfl rfl (by decide +kernel) ⟨Nat.le_of_ble_eq_true rfl, Nat.le_of_ble_eq_true rfl⟩) ⟨fun _ U g mk q => by obtain ⟨q0, qP, qK⟩ := q; exact ⟨q0, qP, va_K.moved (u := U) (U := U.calling g mk _) (Vm.Alike.refl U.vm) qK⟩, fun U hU hW => ⟨rfl, by rw [hU]; exact hP, va_K.moved hW.alike hK⟩⟩ rfl rfl hl.1 rfl (lv_room (Nat.le_of_ble_eq_true rfl)) dX3_gain_15 ⟨Nat.zero_le _, Nat.zero_le _⟩) (fun r15 hr15 => ?_)
        subst hr15
        refine lv_if_eq (tgt := 36) hx hb dX3_gain_18 (by decide) (fun c18 => ?_) (fun c18 => ?_)
        · have c18 := bI_0.mp c18
          refine lv_iinc (v := nI (k + 1)) (lv' := [(5, .int (nI (k + 1))), (4, .int (isum (fun i => if takB (nI i) tk = true then icmp (g 12 j) (g 12 i) else 0) k)), (0, .ref (a 16)), (1, .int pr), (2, .int (nI j)), (3, .int tk)]) hx hb dX3_gain_36 hl (k := 0) rfl (nI_1 k) (by decide) rfl (fun ls hl => ?_)
          refine lv_goto (tgt := 6) hx hb dX3_gain_39 (by decide) ?_
          exact ih (k + 1) (by omega) (by omega) (by omega) _ (by simp [isum_s, c9, n9, c18]) ls (lv_sub hl [0, 1, 2, 3, 4, 5] rfl)
        · have c18 := bI_n0.mp c18
          refine lv_iload hx hb dX3_gain_21 (lv_at hl 1 rfl) ?_
          refine lv_aload_n hx hb dX3_gain_23 rfl (lv_at hl 2 rfl) ?_
          refine lv_iload_n hx hb dX3_gain_24 rfl (lv_at hl 4 rfl) ?_
          refine wi_ald hx hb hK hP 16 0 rfl rfl (k := j) (by omega) (by decide) dX3_gain_25 ?_
          refine lv_aload_n hx hb dX3_gain_26 rfl (lv_at hl 2 rfl) ?_
          refine lv_iload hx hb dX3_gain_27 (lv_at hl 0 rfl) ?_
          refine wi_ald hx hb hK hP 16 0 rfl rfl (k := k) (by omega) (by decide) dX3_gain_29 ?_
          refine vp_callSi (W.runS (As := [.int (g 12 j), .int (g 12 k)]) (rest := [.int (isum (fun i => if takB (nI i) tk = true then icmp (g 12 j) (g 12 i) else 0) k)]) ⟨hx, hb, hml, hown, hts⟩ (c_icmp l dC dI cI cZ cJ a v g (g 12 j) (g 12 k)) (va_cwS 2 hts (gd_J ml_X3_Integer_compare sm_Integer_compare in_Integer kInteger_compare) rfl rfl rfl (by decide +kernel) ⟨Nat.le_of_ble_eq_true rfl, Nat.le_of_ble_eq_true rfl⟩) ⟨fun _ U g mk q => by obtain ⟨q0, qP, qK⟩ := q; exact ⟨q0, qP, va_K.moved (u := U) (U := U.calling g mk _) (Vm.Alike.refl U.vm) qK⟩, fun U hU hW => ⟨rfl, by rw [hU]; exact hP, va_K.moved hW.alike hK⟩⟩ rfl rfl hl.1 rfl (lv_room (Nat.le_of_ble_eq_true rfl)) dX3_gain_30 ⟨Nat.zero_le _, Nat.zero_le _⟩) (fun r30 hr30 => ?_)
          subst hr30
          refine lv_iadd hx hb dX3_gain_33 ?_
          refine lv_topi (fun x33 e33 => ?_)
          refine lv_istore (lv' := [(4, .int x33), (5, .int (nI k)), (0, .ref (a 16)), (1, .int pr), (2, .int (nI j)), (3, .int tk)]) hx hb dX3_gain_34 hl (by decide) rfl (fun ls hl => ?_)
          refine lv_iinc (v := nI (k + 1)) (lv' := [(5, .int (nI (k + 1))), (4, .int x33), (0, .ref (a 16)), (1, .int pr), (2, .int (nI j)), (3, .int tk)]) hx hb dX3_gain_36 hl (k := 1) rfl (nI_1 k) (by decide) rfl (fun ls hl => ?_)
          refine lv_goto (tgt := 6) hx hb dX3_gain_39 (by decide) ?_
          exact ih (k + 1) (by omega) (by omega) (by omega) _ (by simp [isum_s, c9, n9, c18, e33]) ls (lv_sub hl [0, 1, 2, 3, 4, 5] rfl)
  exact lp (np + 1) 0 (by omega) (by omega) (by omega) _ (rfl) ls (lv_sub hl [0, 1, 2, 3, 4, 5] rfl)
end
section

def sumI (g : Nat → Nat → Int32) (np : Nat) : Int32 := isum (fun j => gainI g np j (msk j)) np
/-- ways to go on behind the periods taken, and end not below the goal -/
def ordI (g : Nat → Nat → Int32) (np : Nat) : Nat → Int32 → Int32 → Int32 → Int32
  | 0, _, sm, gl => if gl ≤ sm then 1 else 0
  | o + 1, tk, sm, gl => isum (fun i => if takB (nI i) tk = true then 0 else ordI g np o (tk ||| ((1 : Int32) <<< (nI i &&& 31))) (sm + gainI g np i tk) gl) np

set_option maxHeartbeats 4000000 in
set_option maxRecDepth 100000 in
theorem c_tsum (l : Launch) (dC : Nat → ClassId) (dI : Nat → Nat → Nat) (cI cZ cJ : ClassId) (a : Nat → Nat) (v : Nat → Int32) (g : Nat → Nat → Int32)  (np : Nat) (hnp : v 6 = nI np) (hnp2 : np ≤ 6)  : Met l yX3_sum wsX3_sum ({ frames := 2, cells := 0, slots := 0, locals := 46 }) (va_Pc [.ref (a 15)] (fun U => va_P (dC, dI) clA (wA cI cZ a v g) U.heap ∧ va_K (dC, dI) clA (tyA cI cZ cJ) U)) (vp_Si (fun r => r = sumI g np)) 0 0 (fun _ => False) := by
  refine Met.ofW (cc := cX3_sum) (maxL := 4) (ret := (some .int)) (by decide) rfl ?_
  intro p e s m args below meth c s₁ B hml hv
  obtain ⟨rfl, hP, hK⟩ := hv
  have hx := B.exec
  have hb := B.bytes
  have hr := B.returns
  have hts := atoms_spec (ws := wsX3_sum) B.pre
  have hown : s.vm.findClass RX3 = some m.cls := findClass_of_methodNamed B.named
  have hlocks := B.notSynchronized
  have hl := lv_entry ([.ref (a 15)]) (n := 4) (Nat.le_of_ble_eq_true rfl)
  rw [lg_entry_eq]
  generalize (lg_sl ([.ref (a 15)]) ++ List.replicate (4 - (lg_sl ([.ref (a 15)])).length) Slot.unset).toArray = ls at hl ⊢
  have hl : lv_has ls 4 [(0, .ref (a 15))] := hl
  refine lv_iconst (v := 0) hx hb dX3_sum_0 (by decide) ?_
  refine lv_istore_n (lv' := [(1, .int 0), (0, .ref (a 15))]) hx hb dX3_sum_1 rfl hl (by decide) rfl (fun ls hl => ?_)
  refine lv_iconst (v := 0) hx hb dX3_sum_2 (by decide) ?_
  refine lv_istore_n (lv' := [(2, .int 0), (1, .int 0), (0, .ref (a 15))]) hx hb dX3_sum_3 rfl hl (by decide) rfl (fun ls hl => ?_)
  refine lv_iconst (v := 0) hx hb dX3_sum_4 (by decide) ?_
  refine lv_istore_n (lv' := [(3, .int 0), (2, .int 0), (1, .int 0), (0, .ref (a 15))]) hx hb dX3_sum_5 rfl hl (by decide) rfl (fun ls hl => ?_)
  have lp : ∀ (d k : Nat), 0 ≤ k → k ≤ np → np + 1 ≤ k + d → ∀ (acc er : Int32), acc = isum (fun j => gainI g np j (msk j)) k → er = msk k → ∀ (ls : Array Slot), lv_has ls 4 [(3, .int (nI k)), (1, .int acc), (2, .int er), (0, .ref (a 15))] → W p l e (headSpec wsX3_sum ({ frames := 2, cells := 0, slots := 0, locals := 46 })).room s m ([.ref (a 15)] : List Value).toArray below meth c s.heap [] 0 0 (MQ below (vp_Si (fun r => r = sumI g np)) ([.ref (a 15)] : List Value).toArray s 0 0 (fun _ => False)) (F0 m 6 ls []) := by
    intro d
    induction d with
    | zero => intro k h0 h1 h2; exact absurd h2 (by omega)
    | succ d ih =>
      intro k hk0 hkn hkd acc er ea_acc ea_er ls hl
      subst ea_acc ea_er
      refine lv_iload_n hx hb dX3_sum_6 rfl (lv_at hl 0 rfl) ?_
      refine lv_aload_n hx hb dX3_sum_7 rfl (lv_at hl 3 rfl) ?_
      refine va_get (D := (dC, dI)) (ci := 3) (v := .int (v 6)) (C := RX3) (T := TX3) (N := 2) hx hb hts (fun w h => List.mem_cons_of_mem _ (iw_X3 w h)) hown hK hP 15 rfl rfl 1 (by decide) (hts _ (List.mem_cons_of_mem _ fl_X3_periods)) (fun _ h9 => h9) rfl dX3_sum_8 ?_
      refine lv_icmp_ge (tgt := 42) hx hb dX3_sum_11 (by decide) (fun c11 => ?_) (fun c11 => ?_)
      · have n11 := Int32.not_lt.mpr c11
        rw [hnp] at c11
        have hkn2 : k = np := Nat.le_antisymm hkn ((nI_leI (by omega) (by omega)).mp c11)
        refine lv_iload_n hx hb dX3_sum_42 rfl (lv_at hl 1 rfl) ?_
        exact W.iret (v := isum (fun j => gainI g np j (msk j)) k) hx hb hr (fun t ht hW => ⟨_, rfl, (by subst hkn2; rfl), ht⟩) (fun _ h => absurd h List.not_mem_nil) dX3_sum_43
      · have n11 := Int32.not_le.mp c11
        rw [hnp] at c11
        have hk : k < np := Nat.lt_of_not_le (fun h => c11 (nI_le h (by omega)))
        refine lv_iload_n hx hb dX3_sum_14 rfl (lv_at hl 1 rfl) ?_
        refine lv_aload_n hx hb dX3_sum_15 rfl (lv_at hl 3 rfl) ?_
        refine va_get (D := (dC, dI)) (ci := 3) (v := .ref (a 16)) (C := RX3) (T := TX3) (N := 2) hx hb hts (fun w h => List.mem_cons_of_mem _ (iw_X3 w h)) hown hK hP 15 rfl rfl 0 (by decide) (hts _ (List.mem_cons_of_mem _ fl_X3_counts)) (fun _ h9 => h9) rfl dX3_sum_16 ?_
        refine lv_aload_n hx hb dX3_sum_19 rfl (lv_at hl 3 rfl) ?_
        refine va_get (D := (dC, dI)) (ci := 3) (v := .int (v 6)) (C := RX3) (T := TX3) (N := 2) hx hb hts (fun w h => List.mem_cons_of_mem _ (iw_X3 w h)) hown hK hP 15 rfl rfl 1 (by decide) (hts _ (List.mem_cons_of_mem _ fl_X3_periods)) (fun _ h9 => h9) rfl dX3_sum_20 ?_
        refine lv_iload_n hx hb dX3_sum_23 rfl (lv_at hl 0 rfl) ?_
        refine lv_iload_n hx hb dX3_sum_24 rfl (lv_at hl 2 rfl) ?_
        refine vp_callSi (W.runS (As := [.ref (a 16), .int (v 6), .int (nI k), .int (msk k)]) (rest := [.int (isum (fun j => gainI g np j (msk j)) k)]) ⟨hx, hb, hml, hown, hts⟩ (c_gain l dC dI cI cZ cJ a v g (v 6) np hnp hnp2 k (msk k) (by omega)) (cwS 4 hts (gd_S ml_X3_X3_gain sm_X3_gain in_X3 kX3_gain) rfl rfl rfl (by decide +kernel) ⟨Nat.le_of_ble_eq_true rfl, Nat.le_of_ble_eq_true rfl⟩) ⟨fun _ U g mk q => by obtain ⟨q0, qP, qK⟩ := q; exact ⟨q0, qP, va_K.moved (u := U) (U := U.calling g mk _) (Vm.Alike.refl U.vm) qK⟩, fun U hU hW => ⟨rfl, by rw [hU]; exact hP, va_K.moved hW.alike hK⟩⟩ rfl rfl hl.1 rfl (lv_room (Nat.le_of_ble_eq_true rfl)) dX3_sum_25 ⟨Nat.zero_le _, Nat.zero_le _⟩) (fun r25 hr25 => ?_)
        subst hr25
        refine lv_iadd hx hb dX3_sum_28 ?_
        refine lv_istore_n (lv' := [(1, .int ((isum (fun j => gainI g np j (msk j)) k) + (gainI g np k (msk k)))), (3, .int (nI k)), (2, .int (msk k)), (0, .ref (a 15))]) hx hb dX3_sum_29 rfl hl (by decide) rfl (fun ls hl => ?_)
        refine lv_iload_n hx hb dX3_sum_30 rfl (lv_at hl 2 rfl) ?_
        refine lv_iconst (v := 1) hx hb dX3_sum_31 (by decide) ?_
        refine lv_iload_n hx hb dX3_sum_32 rfl (lv_at hl 1 rfl) ?_
        refine lv_ishl hx hb dX3_sum_33 ?_
        refine lv_ior hx hb dX3_sum_34 ?_
        refine lv_istore_n (lv' := [(2, .int ((msk k) ||| (1 <<< ((nI k) &&& 31)))), (1, .int ((isum (fun j => gainI g np j (msk j)) k) + (gainI g np k (msk k)))), (3, .int (nI k)), (0, .ref (a 15))]) hx hb dX3_sum_35 rfl hl (by decide) rfl (fun ls hl => ?_)
        refine lv_iinc (v := nI (k + 1)) (lv' := [(3, .int (nI (k + 1))), (2, .int ((msk k) ||| (1 <<< ((nI k) &&& 31)))), (1, .int ((isum (fun j => gainI g np j (msk j)) k) + (gainI g np k (msk k)))), (0, .ref (a 15))]) hx hb dX3_sum_36 hl (k := 2) rfl (nI_1 k) (by decide) rfl (fun ls hl => ?_)
        refine lv_goto (tgt := 6) hx hb dX3_sum_39 (by decide) ?_
        exact ih (k + 1) (by omega) (by omega) (by omega) _ _ (by simp [isum_s, msk, c11, n11]) (by simp [isum_s, msk, c11, n11]) ls (lv_sub hl [0, 2, 1, 3] rfl)
  exact lp (np + 1) 0 (by omega) (by omega) (by omega) _ _ (rfl) (rfl) ls (lv_sub hl [0, 2, 1, 3] rfl)
set_option maxHeartbeats 4000000 in
set_option maxRecDepth 100000 in
theorem c_orders (l : Launch) (dC : Nat → ClassId) (dI : Nat → Nat → Nat) (cI cZ cJ : ClassId) (a : Nat → Nat) (v : Nat → Int32) (g : Nat → Nat → Int32) (np : Nat) (hnp : v 6 = nI np) (hnp2 : np ≤ 6) (hnp1 : 1 ≤ np) : Met l yX3_orders wsX3_orders ({ frames := 0, cells := 0, slots := 0, locals := 0 }) (va_Pc [.ref (a 15)] (fun U => va_P (dC, dI) clA (wA cI cZ a v g) U.heap ∧ va_K (dC, dI) clA (tyA cI cZ cJ) U)) (vp_Si (fun r => r = facI np)) 0 0 (fun _ => False) := by
  refine Met.ofW (cc := cX3_orders) (maxL := 3) (ret := (some .int)) (by decide) rfl ?_
  intro p e s m args below meth c s₁ B hml hv
  obtain ⟨rfl, hP, hK⟩ := hv
  have hx := B.exec
  have hb := B.bytes
  have hr := B.returns
  have hts := atoms_spec (ws := wsX3_orders) B.pre
  have hown : s.vm.findClass RX3 = some m.cls := findClass_of_methodNamed B.named
  have hlocks := B.notSynchronized
  have hl := lv_entry ([.ref (a 15)]) (n := 3) (Nat.le_of_ble_eq_true rfl)
  rw [lg_entry_eq]
  generalize (lg_sl ([.ref (a 15)]) ++ List.replicate (3 - (lg_sl ([.ref (a 15)])).length) Slot.unset).toArray = ls at hl ⊢
  have hl : lv_has ls 3 [(0, .ref (a 15))] := hl
  refine lv_iconst (v := 1) hx hb dX3_orders_0 (by decide) ?_
  refine lv_istore_n (lv' := [(1, .int 1), (0, .ref (a 15))]) hx hb dX3_orders_1 rfl hl (by decide) rfl (fun ls hl => ?_)
  refine lv_iconst (v := 2) hx hb dX3_orders_2 (by decide) ?_
  refine lv_istore_n (lv' := [(2, .int 2), (1, .int 1), (0, .ref (a 15))]) hx hb dX3_orders_3 rfl hl (by decide) rfl (fun ls hl => ?_)
  have lp : ∀ (d k : Nat), 2 ≤ k → k ≤ (np + 1) → (np + 1) + 1 ≤ k + d → ∀ (acc : Int32), acc = facI (k - 1) → ∀ (ls : Array Slot), lv_has ls 3 [(2, .int (nI k)), (1, .int acc), (0, .ref (a 15))] → W p l e (headSpec wsX3_orders ({ frames := 0, cells := 0, slots := 0, locals := 0 })).room s m ([.ref (a 15)] : List Value).toArray below meth c s.heap [] 0 0 (MQ below (vp_Si (fun r => r = facI np)) ([.ref (a 15)] : List Value).toArray s 0 0 (fun _ => False)) (F0 m 4 ls []) := by
    intro d
    induction d with
    | zero => intro k h0 h1 h2; exact absurd h2 (by omega)
    | succ d ih =>
      intro k hk0 hkn hkd acc ea_acc ls hl
      subst ea_acc
      refine lv_iload_n hx hb dX3_orders_4 rfl (lv_at hl 0 rfl) ?_
      refine lv_aload_n hx hb dX3_orders_5 rfl (lv_at hl 2 rfl) ?_
      refine va_get (D := (dC, dI)) (ci := 3) (v := .int (v 6)) (C := RX3) (T := TX3) (N := 2) hx hb hts (fun w h => List.mem_cons_of_mem _ (iw_X3 w h)) hown hK hP 15 rfl rfl 1 (by decide) (hts _ (List.mem_cons_of_mem _ fl_X3_periods)) (fun _ h9 => h9) rfl dX3_orders_6 ?_
      refine lv_icmp_gt (tgt := 22) hx hb dX3_orders_9 (by decide) (fun c9 => ?_) (fun c9 => ?_)
      · have n9 := Int32.not_le.mpr c9
        rw [hnp] at c9
        have hkn2 : k = np + 1 := Nat.le_antisymm hkn ((nI_ltI (by omega) (by omega)).mp c9)
        refine lv_iload_n hx hb dX3_orders_22 rfl (lv_at hl 1 rfl) ?_
        exact W.iret (v := facI (k - 1)) hx hb hr (fun t ht hW => ⟨_, rfl, (by subst hkn2; rfl), ht⟩) (fun _ h => absurd h List.not_mem_nil) dX3_orders_23
      · have n9 := Int32.not_lt.mp c9
        rw [hnp] at c9
        have hk : k < np + 1 := Nat.lt_of_not_le (fun h => c9 (nI_lt h (by omega)))
        refine lv_iload_n hx hb dX3_orders_12 rfl (lv_at hl 1 rfl) ?_
        refine lv_iload_n hx hb dX3_orders_13 rfl (lv_at hl 0 rfl) ?_
        refine lv_imul hx hb dX3_orders_14 ?_
        refine lv_istore_n (lv' := [(1, .int ((facI (k - 1)) * (nI k))), (2, .int (nI k)), (0, .ref (a 15))]) hx hb dX3_orders_15 rfl hl (by decide) rfl (fun ls hl => ?_)
        refine lv_iinc (v := nI (k + 1)) (lv' := [(2, .int (nI (k + 1))), (1, .int ((facI (k - 1)) * (nI k))), (0, .ref (a 15))]) hx hb dX3_orders_16 hl (k := 1) rfl (nI_1 k) (by decide) rfl (fun ls hl => ?_)
        refine lv_goto (tgt := 4) hx hb dX3_orders_19 (by decide) ?_
        exact ih (k + 1) (by omega) (by omega) (by omega) _ (by obtain ⟨m, rfl⟩ : ∃ m, k = m + 2 := ⟨k - 2, by omega⟩; rfl) ls (lv_sub hl [0, 1, 2] rfl)
  exact lp ((np + 1) + 1) 2 (by omega) (by omega) (by omega) _ (rfl) ls (lv_sub hl [0, 1, 2] rfl)
set_option maxHeartbeats 4000000 in
set_option maxRecDepth 100000 in
theorem c_ord0 (l : Launch) (dC : Nat → ClassId) (dI : Nat → Nat → Nat) (cI cZ cJ : ClassId) (a : Nat → Nat) (v : Nat → Int32) (g : Nat → Nat → Int32) (pr : Int32) (np : Nat) (hnp : pr = nI np) (hnp2 : np ≤ 6) (tk op sm gl : Int32) (hop : op = nI 0) : Met l yX3_ordersBehind wsX3_ordersBehind ({ frames := 0 + 2, cells := 0, slots := 0, locals := 28 * 0 + 60 }) (va_Pc [.ref (a 16), .int pr, .int tk, .int op, .int sm, .int gl] (fun U => va_P (dC, dI) clA (wA cI cZ a v g) U.heap ∧ va_K (dC, dI) clA (tyA cI cZ cJ) U)) (vp_Si (fun r => r = ordI g np 0 tk sm gl)) 0 0 (fun _ => False) := by
  refine Met.ofW (cc := cX3_ordersBehind) (maxL := 9) (ret := (some .int)) (by decide) rfl ?_
  intro p e s m args below meth c s₁ B hml hv
  obtain ⟨rfl, hP, hK⟩ := hv
  have hx := B.exec
  have hb := B.bytes
  have hr := B.returns
  have hts := atoms_spec (ws := wsX3_ordersBehind) B.pre
  have hown : s.vm.findClass RX3 = some m.cls := findClass_of_methodNamed B.named
  have hlocks := B.notSynchronized
  have hl := lv_entry ([.ref (a 16), .int pr, .int tk, .int op, .int sm, .int gl]) (n := 9) (Nat.le_of_ble_eq_true rfl)
  rw [lg_entry_eq]
  generalize (lg_sl ([.ref (a 16), .int pr, .int tk, .int op, .int sm, .int gl]) ++ List.replicate (9 - (lg_sl ([.ref (a 16), .int pr, .int tk, .int op, .int sm, .int gl])).length) Slot.unset).toArray = ls at hl ⊢
  have hl : lv_has ls 9 [(0, .ref (a 16)), (1, .int pr), (2, .int tk), (3, .int op), (4, .int sm), (5, .int gl)] := hl
  refine lv_iload_n hx hb dX3_ordersBehind_0 rfl (lv_at hl 3 rfl) ?_
  refine lv_if_gt (tgt := 17) hx hb dX3_ordersBehind_1 (by decide) (fun c1 => ?_) (fun c1 => ?_)
  · exact absurd c1 (by rw [hop]; decide)
  · refine lv_iload hx hb dX3_ordersBehind_4 (lv_at hl 4 rfl) ?_
    refine lv_iload hx hb dX3_ordersBehind_6 (lv_at hl 5 rfl) ?_
    refine lv_icmp_lt (tgt := 15) hx hb dX3_ordersBehind_8 (by decide) (fun c8 => ?_) (fun c8 => ?_)
    · have n8 := Int32.not_le.mpr c8
      refine lv_iconst (v := 0) hx hb dX3_ordersBehind_15 (by decide) ?_
      exact W.iret (v := 0) hx hb hr (fun t ht hW => ⟨_, rfl, (by simp [ordI, c8, n8]), ht⟩) (fun _ h => absurd h List.not_mem_nil) dX3_ordersBehind_16
    · have n8 := Int32.not_lt.mp c8
      refine lv_iconst (v := 1) hx hb dX3_ordersBehind_11 (by decide) ?_
      refine lv_goto (tgt := 16) hx hb dX3_ordersBehind_12 (by decide) ?_
      exact W.iret (v := 1) hx hb hr (fun t ht hW => ⟨_, rfl, (by simp [ordI, c8, n8]), ht⟩) (fun _ h => absurd h List.not_mem_nil) dX3_ordersBehind_16
set_option maxHeartbeats 4000000 in
set_option maxRecDepth 100000 in
theorem c_ordS (l : Launch) (dC : Nat → ClassId) (dI : Nat → Nat → Nat) (cI cZ cJ : ClassId) (a : Nat → Nat) (v : Nat → Int32) (g : Nat → Nat → Int32) (pr : Int32) (np : Nat) (hnp : pr = nI np) (hnp2 : np ≤ 6) (o : Nat) (ho : o ≤ 6) (IH : ∀ (tk op sm gl : Int32), op = nI o → Met l yX3_ordersBehind wsX3_ordersBehind ({ frames := o + 2, cells := 0, slots := 0, locals := 28 * o + 60 }) (va_Pc [.ref (a 16), .int pr, .int tk, .int op, .int sm, .int gl] (fun U => va_P (dC, dI) clA (wA cI cZ a v g) U.heap ∧ va_K (dC, dI) clA (tyA cI cZ cJ) U)) (vp_Si (fun r => r = ordI g np o tk sm gl)) 0 0 (fun _ => False)) (tk op sm gl : Int32) (hop : op = nI (o + 1)) : Met l yX3_ordersBehind wsX3_ordersBehind ({ frames := (o + 1) + 2, cells := 0, slots := 0, locals := 28 * (o + 1) + 60 }) (va_Pc [.ref (a 16), .int pr, .int tk, .int op, .int sm, .int gl] (fun U => va_P (dC, dI) clA (wA cI cZ a v g) U.heap ∧ va_K (dC, dI) clA (tyA cI cZ cJ) U)) (vp_Si (fun r => r = ordI g np (o + 1) tk sm gl)) 0 0 (fun _ => False) := by
  refine Met.ofW (cc := cX3_ordersBehind) (maxL := 9) (ret := (some .int)) (by decide) rfl ?_
  intro p e s m args below meth c s₁ B hml hv
  obtain ⟨rfl, hP, hK⟩ := hv
  have hx := B.exec
  have hb := B.bytes
  have hr := B.returns
  have hts := atoms_spec (ws := wsX3_ordersBehind) B.pre
  have hown : s.vm.findClass RX3 = some m.cls := findClass_of_methodNamed B.named
  have hlocks := B.notSynchronized
  have hl := lv_entry ([.ref (a 16), .int pr, .int tk, .int op, .int sm, .int gl]) (n := 9) (Nat.le_of_ble_eq_true rfl)
  rw [lg_entry_eq]
  generalize (lg_sl ([.ref (a 16), .int pr, .int tk, .int op, .int sm, .int gl]) ++ List.replicate (9 - (lg_sl ([.ref (a 16), .int pr, .int tk, .int op, .int sm, .int gl])).length) Slot.unset).toArray = ls at hl ⊢
  have hl : lv_has ls 9 [(0, .ref (a 16)), (1, .int pr), (2, .int tk), (3, .int op), (4, .int sm), (5, .int gl)] := hl
  refine lv_iload_n hx hb dX3_ordersBehind_0 rfl (lv_at hl 3 rfl) ?_
  refine lv_if_gt (tgt := 17) hx hb dX3_ordersBehind_1 (by decide) (fun c1 => ?_) (fun c1 => ?_)
  · refine lv_iconst (v := 0) hx hb dX3_ordersBehind_17 (by decide) ?_
    refine lv_istore (lv' := [(6, .int 0), (0, .ref (a 16)), (1, .int pr), (2, .int tk), (3, .int op), (4, .int sm), (5, .int gl)]) hx hb dX3_ordersBehind_18 hl (by decide) rfl (fun ls hl => ?_)
    refine lv_iconst (v := 0) hx hb dX3_ordersBehind_20 (by decide) ?_
    refine lv_istore (lv' := [(7, .int 0), (6, .int 0), (0, .ref (a 16)), (1, .int pr), (2, .int tk), (3, .int op), (4, .int sm), (5, .int gl)]) hx hb dX3_ordersBehind_21 hl (by decide) rfl (fun ls hl => ?_)
    have lp : ∀ (d k : Nat), 0 ≤ k → k ≤ np → np + 1 ≤ k + d → ∀ (acc : Int32), acc = isum (fun i => if takB (nI i) tk = true then 0 else ordI g np o (tk ||| ((1 : Int32) <<< (nI i &&& 31))) (sm + gainI g np i tk) gl) k → ∀ (ls : Array Slot), lv_has ls 9 [(7, .int (nI k)), (6, .int acc), (0, .ref (a 16)), (1, .int pr), (2, .int tk), (3, .int op), (4, .int sm), (5, .int gl)] → W p l e (headSpec wsX3_ordersBehind ({ frames := (o + 1) + 2, cells := 0, slots := 0, locals := 28 * (o + 1) + 60 })).room s m ([.ref (a 16), .int pr, .int tk, .int op, .int sm, .int gl] : List Value).toArray below meth c s.heap [] 0 0 (MQ below (vp_Si (fun r => r = ordI g np (o + 1) tk sm gl)) ([.ref (a 16), .int pr, .int tk, .int op, .int sm, .int gl] : List Value).toArray s 0 0 (fun _ => False)) (F0 m 23 ls []) := by
      intro d
      induction d with
      | zero => intro k h0 h1 h2; exact absurd h2 (by omega)
      | succ d ih =>
        intro k hk0 hkn hkd acc ea_acc ls hl
        subst ea_acc
        refine lv_iload hx hb dX3_ordersBehind_23 (lv_at hl 0 rfl) ?_
        refine lv_iload_n hx hb dX3_ordersBehind_25 rfl (lv_at hl 3 rfl) ?_
        refine lv_icmp_ge (tgt := 80) hx hb dX3_ordersBehind_26 (by decide) (fun c26 => ?_) (fun c26 => ?_)
        · have n26 := Int32.not_lt.mpr c26
          rw [hnp] at c26
          have hkn2 : k = np := Nat.le_antisymm hkn ((nI_leI (by omega) (by omega)).mp c26)
          refine lv_iload hx hb dX3_ordersBehind_80 (lv_at hl 1 rfl) ?_
          exact W.iret (v := isum (fun i => if takB (nI i) tk = true then 0 else ordI g np o (tk ||| ((1 : Int32) <<< (nI i &&& 31))) (sm + gainI g np i tk) gl) k) hx hb hr (fun t ht hW => ⟨_, rfl, (by subst hkn2; rfl), ht⟩) (fun _ h => absurd h List.not_mem_nil) dX3_ordersBehind_82
        · have n26 := Int32.not_le.mp c26
          rw [hnp] at c26
          have hk : k < np := Nat.lt_of_not_le (fun h => c26 (nI_le h (by omega)))
          refine lv_iload hx hb dX3_ordersBehind_29 (lv_at hl 0 rfl) ?_
          refine lv_iload_n hx hb dX3_ordersBehind_31 rfl (lv_at hl 4 rfl) ?_
          refine vp_callSi (W.runS (As := [.int (nI k), .int tk]) (rest := []) ⟨hx, hb, hml, hown, hts⟩ (c_taken l dC dI cI cZ cJ a v g (nI k) tk) (cwS 2 hts (gd_S ml_X3_X3_isTaken sm_X3_isTaken in_X3 kX3_isTaken) rfl rfl rfl (by decide +kernel) ⟨(by show 0 + 1 ≤ (o + 1) + 2; omega), (by show 8 + (2 + 11) + 0 ≤ 28 * (o + 1) + 60; omega)⟩) ⟨fun _ U g mk q => by obtain ⟨q0, qP, qK⟩ := q; exact ⟨q0, qP, va_K.moved (u := U) (U := U.calling g mk _) (Vm.Alike.refl U.vm) qK⟩, fun U hU hW => ⟨rfl, by rw [hU]; exact hP, va_K.moved hW.alike hK⟩⟩ rfl rfl hl.1 rfl (lv_room (Nat.le_of_ble_eq_true rfl)) dX3_ordersBehind_32 ⟨Nat.zero_le _, Nat.zero_le _⟩) (fun r32 hr32 => ?_)
          subst hr32
          refine lv_if_ne (tgt := 74) hx hb dX3_ordersBehind_35 (by decide) (fun c35 => ?_) (fun c35 => ?_)
          · have c35 := bI_n0.mp c35
            refine lv_iinc (v := nI (k + 1)) (lv' := [(7, .int (nI (k + 1))), (6, .int (isum (fun i => if takB (nI i) tk = true then 0 else ordI g np o (tk ||| ((1 : Int32) <<< (nI i &&& 31))) (sm + gainI g np i tk) gl) k)), (0, .ref (a 16)), (1, .int pr), (2, .int tk), (3, .int op), (4, .int sm), (5, .int gl)]) hx hb dX3_ordersBehind_74 hl (k := 0) rfl (nI_1 k) (by decide) rfl (fun ls hl => ?_)
            refine lv_goto (tgt := 23) hx hb dX3_ordersBehind_77 (by decide) ?_
            exact ih (k + 1) (by omega) (by omega) (by omega) _ (by simp [isum_s, c26, n26, c35]) ls (lv_sub hl [0, 1, 2, 3, 4, 5, 6, 7] rfl)
          · have c35 := bI_0.mp c35
            refine lv_iload hx hb dX3_ordersBehind_38 (lv_at hl 6 rfl) ?_
            refine lv_aload_n hx hb dX3_ordersBehind_40 rfl (lv_at hl 2 rfl) ?_
            refine lv_iload_n hx hb dX3_ordersBehind_41 rfl (lv_at hl 3 rfl) ?_
            refine lv_iload hx hb dX3_ordersBehind_42 (lv_at hl 0 rfl) ?_
            refine lv_iload_n hx hb dX3_ordersBehind_44 rfl (lv_at hl 4 rfl) ?_
            refine vp_callSi (W.runS (As := [.ref (a 16), .int pr, .int (nI k), .int tk]) (rest := [.int sm]) ⟨hx, hb, hml, hown, hts⟩ (c_gain l dC dI cI cZ cJ a v g pr np hnp hnp2 k tk (by omega)) (cwS 4 hts (gd_S ml_X3_X3_gain sm_X3_gain in_X3 kX3_gain) rfl rfl rfl (by decide +kernel) ⟨(by show 1 + 1 ≤ (o + 1) + 2; omega), (by show 8 + (6 + 11) + 21 ≤ 28 * (o + 1) + 60; omega)⟩) ⟨fun _ U g mk q => by obtain ⟨q0, qP, qK⟩ := q; exact ⟨q0, qP, va_K.moved (u := U) (U := U.calling g mk _) (Vm.Alike.refl U.vm) qK⟩, fun U hU hW => ⟨rfl, by rw [hU]; exact hP, va_K.moved hW.alike hK⟩⟩ rfl rfl hl.1 rfl (lv_room (Nat.le_of_ble_eq_true rfl)) dX3_ordersBehind_45 ⟨Nat.zero_le _, Nat.zero_le _⟩) (fun r45 hr45 => ?_)
            subst hr45
            refine lv_iadd hx hb dX3_ordersBehind_48 ?_
            refine lv_istore (lv' := [(8, .int (sm + (gainI g np k tk))), (7, .int (nI k)), (6, .int (isum (fun i => if takB (nI i) tk = true then 0 else ordI g np o (tk ||| ((1 : Int32) <<< (nI i &&& 31))) (sm + gainI g np i tk) gl) k)), (0, .ref (a 16)), (1, .int pr), (2, .int tk), (3, .int op), (4, .int sm), (5, .int gl)]) hx hb dX3_ordersBehind_49 hl (by decide) rfl (fun ls hl => ?_)
            refine lv_iload hx hb dX3_ordersBehind_51 (lv_at hl 2 rfl) ?_
            refine lv_aload_n hx hb dX3_ordersBehind_53 rfl (lv_at hl 3 rfl) ?_
            refine lv_iload_n hx hb dX3_ordersBehind_54 rfl (lv_at hl 4 rfl) ?_
            refine lv_iload_n hx hb dX3_ordersBehind_55 rfl (lv_at hl 5 rfl) ?_
            refine lv_iconst (v := 1) hx hb dX3_ordersBehind_56 (by decide) ?_
            refine lv_iload hx hb dX3_ordersBehind_57 (lv_at hl 1 rfl) ?_
            refine lv_ishl hx hb dX3_ordersBehind_59 ?_
            refine lv_ior hx hb dX3_ordersBehind_60 ?_
            refine lv_iload_n hx hb dX3_ordersBehind_61 rfl (lv_at hl 6 rfl) ?_
            refine lv_iconst (v := 1) hx hb dX3_ordersBehind_62 (by decide) ?_
            refine lv_isub hx hb dX3_ordersBehind_63 ?_
            refine lv_iload hx hb dX3_ordersBehind_64 (lv_at hl 0 rfl) ?_
            refine lv_iload hx hb dX3_ordersBehind_66 (lv_at hl 8 rfl) ?_
            refine vp_callSi (W.runS (As := [.ref (a 16), .int pr, .int (tk ||| (1 <<< ((nI k) &&& 31))), .int (op - 1), .int (sm + (gainI g np k tk)), .int gl]) (rest := [.int (isum (fun i => if takB (nI i) tk = true then 0 else ordI g np o (tk ||| ((1 : Int32) <<< (nI i &&& 31))) (sm + gainI g np i tk) gl) k)]) ⟨hx, hb, hml, hown, hts⟩ (IH (tk ||| (1 <<< ((nI k) &&& 31))) (op - 1) (sm + (gainI g np k tk)) gl (by rw [hop]; exact nI_pred o)) (cwS 6 hts (gd_S ml_X3_X3_ordersBehind sm_X3_ordersBehind in_X3 kX3_ordersBehind) rfl rfl rfl (by decide +kernel) ⟨(by show (o + 2) + 1 ≤ (o + 1) + 2; omega), (by show 8 + (9 + 11) + (28 * o + 60) ≤ 28 * (o + 1) + 60; omega)⟩) ⟨fun _ U g mk q => by obtain ⟨q0, qP, qK⟩ := q; exact ⟨q0, qP, va_K.moved (u := U) (U := U.calling g mk _) (Vm.Alike.refl U.vm) qK⟩, fun U hU hW => ⟨rfl, by rw [hU]; exact hP, va_K.moved hW.alike hK⟩⟩ rfl rfl hl.1 rfl (lv_room (Nat.le_of_ble_eq_true rfl)) dX3_ordersBehind_68 ⟨Nat.zero_le _, Nat.zero_le _⟩) (fun r68 hr68 => ?_)
            subst hr68
            refine lv_iadd hx hb dX3_ordersBehind_71 ?_
            refine lv_topi (fun x71 e71 => ?_)
            refine lv_istore (lv' := [(6, .int x71), (8, .int (sm + (gainI g np k tk))), (7, .int (nI k)), (0, .ref (a 16)), (1, .int pr), (2, .int tk), (3, .int op), (4, .int sm), (5, .int gl)]) hx hb dX3_ordersBehind_72 hl (by decide) rfl (fun ls hl => ?_)
            refine lv_iinc (v := nI (k + 1)) (lv' := [(7, .int (nI (k + 1))), (6, .int x71), (8, .int (sm + (gainI g np k tk))), (0, .ref (a 16)), (1, .int pr), (2, .int tk), (3, .int op), (4, .int sm), (5, .int gl)]) hx hb dX3_ordersBehind_74 hl (k := 2) rfl (nI_1 k) (by decide) rfl (fun ls hl => ?_)
            refine lv_goto (tgt := 23) hx hb dX3_ordersBehind_77 (by decide) ?_
            exact ih (k + 1) (by omega) (by omega) (by omega) _ (by simp [isum_s, c26, n26, c35, e71]) ls (lv_sub hl [0, 1, 3, 4, 5, 6, 7, 8] rfl)
    exact lp (np + 1) 0 (by omega) (by omega) (by omega) _ (rfl) ls (lv_sub hl [0, 1, 2, 3, 4, 5, 6, 7] rfl)
  · exact absurd (by rw [hop]; exact nI_lt (a := 0) (b := o + 1) (by omega) (by omega)) c1
theorem c_ord (l : Launch) (dC : Nat → ClassId) (dI : Nat → Nat → Nat) (cI cZ cJ : ClassId) (a : Nat → Nat) (v : Nat → Int32) (g : Nat → Nat → Int32) (pr : Int32) (np : Nat) (hnp : pr = nI np) (hnp2 : np ≤ 6) : ∀ (o : Nat), o ≤ 6 → ∀ (tk op sm gl : Int32), op = nI o → Met l yX3_ordersBehind wsX3_ordersBehind ({ frames := o + 2, cells := 0, slots := 0, locals := 28 * o + 60 }) (va_Pc [.ref (a 16), .int pr, .int tk, .int op, .int sm, .int gl] (fun U => va_P (dC, dI) clA (wA cI cZ a v g) U.heap ∧ va_K (dC, dI) clA (tyA cI cZ cJ) U)) (vp_Si (fun r => r = ordI g np o tk sm gl)) 0 0 (fun _ => False) := by
  intro o
  induction o with
  | zero => intro _ tk op sm gl hop; exact c_ord0 l dC dI cI cZ cJ a v g pr np hnp hnp2 tk op sm gl hop
  | succ o IH => intro ho tk op sm gl hop; exact c_ordS l dC dI cI cZ cJ a v g pr np hnp hnp2 o (by omega) (IH (by omega)) tk op sm gl hop
theorem c_ordR (l : Launch) (dC : Nat → ClassId) (dI : Nat → Nat → Nat) (cI cZ cJ : ClassId) (a : Nat → Nat) (v : Nat → Int32) (g : Nat → Nat → Int32) (pr : Int32) (np : Nat) (hnp : pr = nI np) (hnp2 : np ≤ 6) (tk op sm gl : Int32) (hop : op = nI np) : Met l yX3_ordersBehind wsX3_ordersBehind ({ frames := np + 2, cells := 0, slots := 0, locals := 28 * np + 60 }) (va_Pc [.ref (a 16), .int pr, .int tk, .int op, .int sm, .int gl] (fun U => va_P (dC, dI) clA (wA cI cZ a v g) U.heap ∧ va_K (dC, dI) clA (tyA cI cZ cJ) U)) (vp_Si (fun r => r = ordI g np np tk sm gl)) 0 0 (fun _ => False) := c_ord l dC dI cI cZ cJ a v g pr np hnp hnp2 np hnp2 tk op sm gl hop
set_option maxHeartbeats 4000000 in
set_option maxRecDepth 100000 in
theorem c_notBelow (l : Launch) (dC : Nat → ClassId) (dI : Nat → Nat → Nat) (cI cZ cJ : ClassId) (a : Nat → Nat) (v : Nat → Int32) (g : Nat → Nat → Int32) (np : Nat) (hnp : v 6 = nI np) (hnp2 : np ≤ 6) (gl : Int32) : Met l yX3_ordersNotBelow wsX3_ordersNotBelow ({ frames := 9, cells := 0, slots := 0, locals := 256 }) (va_Pc [.ref (a 15), .int gl] (fun U => va_P (dC, dI) clA (wA cI cZ a v g) U.heap ∧ va_K (dC, dI) clA (tyA cI cZ cJ) U)) (vp_Si (fun r => r = ordI g np np 0 0 gl)) 0 0 (fun _ => False) := by
  refine Met.ofW (cc := cX3_ordersNotBelow) (maxL := 2) (ret := (some .int)) (by decide) rfl ?_
  intro p e s m args below meth c s₁ B hml hv
  obtain ⟨rfl, hP, hK⟩ := hv
  have hx := B.exec
  have hb := B.bytes
  have hr := B.returns
  have hts := atoms_spec (ws := wsX3_ordersNotBelow) B.pre
  have hown : s.vm.findClass RX3 = some m.cls := findClass_of_methodNamed B.named
  have hlocks := B.notSynchronized
  have hl := lv_entry ([.ref (a 15), .int gl]) (n := 2) (Nat.le_of_ble_eq_true rfl)
  rw [lg_entry_eq]
  generalize (lg_sl ([.ref (a 15), .int gl]) ++ List.replicate (2 - (lg_sl ([.ref (a 15), .int gl])).length) Slot.unset).toArray = ls at hl ⊢
  have hl : lv_has ls 2 [(0, .ref (a 15)), (1, .int gl)] := hl
  refine lv_aload_n hx hb dX3_ordersNotBelow_0 rfl (lv_at hl 0 rfl) ?_
  refine va_get (D := (dC, dI)) (ci := 3) (v := .ref (a 16)) (C := RX3) (T := TX3) (N := 2) hx hb hts (fun w h => List.mem_cons_of_mem _ (iw_X3 w h)) hown hK hP 15 rfl rfl 0 (by decide) (hts _ (List.mem_cons_of_mem _ fl_X3_counts)) (fun _ h9 => h9) rfl dX3_ordersNotBelow_1 ?_
  refine lv_aload_n hx hb dX3_ordersNotBelow_4 rfl (lv_at hl 0 rfl) ?_
  refine va_get (D := (dC, dI)) (ci := 3) (v := .int (v 6)) (C := RX3) (T := TX3) (N := 2) hx hb hts (fun w h => List.mem_cons_of_mem _ (iw_X3 w h)) hown hK hP 15 rfl rfl 1 (by decide) (hts _ (List.mem_cons_of_mem _ fl_X3_periods)) (fun _ h9 => h9) rfl dX3_ordersNotBelow_5 ?_
  refine lv_iconst (v := 0) hx hb dX3_ordersNotBelow_8 (by decide) ?_
  refine lv_aload_n hx hb dX3_ordersNotBelow_9 rfl (lv_at hl 0 rfl) ?_
  refine va_get (D := (dC, dI)) (ci := 3) (v := .int (v 6)) (C := RX3) (T := TX3) (N := 2) hx hb hts (fun w h => List.mem_cons_of_mem _ (iw_X3 w h)) hown hK hP 15 rfl rfl 1 (by decide) (hts _ (List.mem_cons_of_mem _ fl_X3_periods)) (fun _ h9 => h9) rfl dX3_ordersNotBelow_10 ?_
  refine lv_iconst (v := 0) hx hb dX3_ordersNotBelow_13 (by decide) ?_
  refine lv_iload_n hx hb dX3_ordersNotBelow_14 rfl (lv_at hl 1 rfl) ?_
  refine vp_callSi (W.runS (As := [.ref (a 16), .int (v 6), .int 0, .int (v 6), .int 0, .int gl]) (rest := []) ⟨hx, hb, hml, hown, hts⟩ (c_ordR l dC dI cI cZ cJ a v g (v 6) np hnp hnp2 0 (v 6) 0 gl hnp) (cwS 6 hts (gd_S ml_X3_X3_ordersBehind sm_X3_ordersBehind in_X3 kX3_ordersBehind) rfl rfl rfl (by decide +kernel) ⟨(by show (np + 2) + 1 ≤ 9; omega), (by show 8 + (9 + 11) + (28 * np + 60) ≤ 256; omega)⟩) ⟨fun _ U g mk q => by obtain ⟨q0, qP, qK⟩ := q; exact ⟨q0, qP, va_K.moved (u := U) (U := U.calling g mk _) (Vm.Alike.refl U.vm) qK⟩, fun U hU hW => ⟨rfl, by rw [hU]; exact hP, va_K.moved hW.alike hK⟩⟩ rfl rfl hl.1 rfl (lv_room (Nat.le_of_ble_eq_true rfl)) dX3_ordersNotBelow_15 ⟨Nat.zero_le _, Nat.zero_le _⟩) (fun r15 hr15 => ?_)
  subst hr15
  exact W.iret (v := ordI g np np 0 0 gl) hx hb hr (fun t ht hW => ⟨_, rfl, rfl, ht⟩) (fun _ h => absurd h List.not_mem_nil) dX3_ordersNotBelow_18
set_option maxHeartbeats 4000000 in
set_option maxRecDepth 100000 in
theorem c_fewest (l : Launch) (dC : Nat → ClassId) (dI : Nat → Nat → Nat) (cI cZ cJ : ClassId) (a : Nat → Nat) (v : Nat → Int32) (g : Nat → Nat → Int32)  : Met l yX2_areaOfFewest wsX2_areaOfFewest ({ frames := 0, cells := 0, slots := 0, locals := 0 }) (va_Pc [.ref (a 17)] (fun U => va_P (dC, dI) clA (wA cI cZ a v g) U.heap ∧ va_K (dC, dI) clA (tyA cI cZ cJ) U)) (vp_Si (fun r => r = fewest g)) 0 0 (fun _ => False) := by
  refine Met.ofW (cc := cX2_areaOfFewest) (maxL := 4) (ret := (some .int)) (by decide) rfl ?_
  intro p e s m args below meth c s₁ B hml hv
  obtain ⟨rfl, hP, hK⟩ := hv
  have hx := B.exec
  have hb := B.bytes
  have hr := B.returns
  have hts := atoms_spec (ws := wsX2_areaOfFewest) B.pre
  have hown : s.vm.findClass RX2 = some m.cls := findClass_of_methodNamed B.named
  have hlocks := B.notSynchronized
  have hl := lv_entry ([.ref (a 17)]) (n := 4) (Nat.le_of_ble_eq_true rfl)
  rw [lg_entry_eq]
  generalize (lg_sl ([.ref (a 17)]) ++ List.replicate (4 - (lg_sl ([.ref (a 17)])).length) Slot.unset).toArray = ls at hl ⊢
  have hl : lv_has ls 4 [(0, .ref (a 17))] := hl
  refine lv_iconst (v := (-1)) hx hb dX2_areaOfFewest_0 (by decide) ?_
  refine lv_istore_n (lv' := [(1, .int (-1)), (0, .ref (a 17))]) hx hb dX2_areaOfFewest_1 rfl hl (by decide) rfl (fun ls hl => ?_)
  refine lv_iconst (v := 0) hx hb dX2_areaOfFewest_2 (by decide) ?_
  refine lv_istore_n (lv' := [(2, .int 0), (1, .int (-1)), (0, .ref (a 17))]) hx hb dX2_areaOfFewest_3 rfl hl (by decide) rfl (fun ls hl => ?_)
  have lp : ∀ (d k : Nat), 0 ≤ k → k ≤ 10 → 10 + 1 ≤ k + d → ∀ (acc : Int32), acc = fewI g k → ∀ (ls : Array Slot), lv_has ls 4 [(2, .int (nI k)), (1, .int acc), (0, .ref (a 17))] → W p l e (headSpec wsX2_areaOfFewest ({ frames := 0, cells := 0, slots := 0, locals := 0 })).room s m ([.ref (a 17)] : List Value).toArray below meth c s.heap [] 0 0 (MQ below (vp_Si (fun r => r = fewest g)) ([.ref (a 17)] : List Value).toArray s 0 0 (fun _ => False)) (F0 m 4 ls []) := by
    intro d
    induction d with
    | zero => intro k h0 h1 h2; exact absurd h2 (by omega)
    | succ d ih =>
      intro k hk0 hkn hkd acc ea_acc ls hl
      subst ea_acc
      refine lv_iload_n hx hb dX2_areaOfFewest_4 rfl (lv_at hl 0 rfl) ?_
      refine lv_bipush (v := 10) hx hb dX2_areaOfFewest_5 (by decide) ?_
      refine lv_icmp_ge (tgt := 65) hx hb dX2_areaOfFewest_7 (by decide) (fun c7 => ?_) (fun c7 => ?_)
      · have n7 := Int32.not_lt.mpr c7
        have hkn2 : k = 10 := Nat.le_antisymm hkn ((nI_leI (a := 10) (b := k) (by decide) (by omega)).mp c7)
        refine lv_iload_n hx hb dX2_areaOfFewest_65 rfl (lv_at hl 1 rfl) ?_
        exact W.iret (v := fewI g k) hx hb hr (fun t ht hW => ⟨_, rfl, (fewI_10 g hkn2), ht⟩) (fun _ h => absurd h List.not_mem_nil) dX2_areaOfFewest_66
      · have n7 := Int32.not_le.mp c7
        have hk : k < 10 := Nat.lt_of_not_le (fun h => c7 (nI_le (a := 10) h (by omega)))
        refine lv_aload_n hx hb dX2_areaOfFewest_10 rfl (lv_at hl 2 rfl) ?_
        refine va_get (D := (dC, dI)) (ci := 2) (v := .ref (a 19)) (C := RX2) (T := TX2) (N := 4) hx hb hts (fun w h => List.mem_cons_of_mem _ (iw_X2 w h)) hown hK hP 17 rfl rfl 1 (by decide) (hts _ (List.mem_cons_of_mem _ fl_X2_isJoined)) (fun _ h9 => h9) rfl dX2_areaOfFewest_11 ?_
        refine lv_iload_n hx hb dX2_areaOfFewest_14 rfl (lv_at hl 0 rfl) ?_
        refine wz_ald hx hb hK hP 19 1 rfl rfl (k := k) (by omega) (by decide) dX2_areaOfFewest_15 ?_
        refine lv_if_ne (tgt := 32) hx hb dX2_areaOfFewest_16 (by decide) (fun c16 => ?_) (fun c16 => ?_)
        · refine lv_iconst (v := 0) hx hb dX2_areaOfFewest_32 (by decide) ?_
          refine lv_istore_n (lv' := [(3, .int 0), (2, .int (nI k)), (1, .int (fewI g k)), (0, .ref (a 17))]) hx hb dX2_areaOfFewest_33 rfl hl (by decide) rfl (fun ls hl => ?_)
          refine lv_iload_n hx hb dX2_areaOfFewest_34 rfl (lv_at hl 0 rfl) ?_
          refine lv_if_eq (tgt := 59) hx hb dX2_areaOfFewest_35 (by decide) (fun c35 => ?_) (fun c35 => ?_)
          · refine lv_iinc (v := nI (k + 1)) (lv' := [(2, .int (nI (k + 1))), (3, .int 0), (1, .int (fewI g k)), (0, .ref (a 17))]) hx hb dX2_areaOfFewest_59 hl (k := 1) rfl (nI_1 k) (by decide) rfl (fun ls hl => ?_)
            refine lv_goto (tgt := 4) hx hb dX2_areaOfFewest_62 (by decide) ?_
            exact ih (k + 1) (by omega) (by omega) (by omega) _ (by simp [fewI, canB, c7, n7, c16]) ls (lv_sub hl [0, 2, 3] rfl)
          · exact absurd c35 (by decide)
        · refine lv_aload_n hx hb dX2_areaOfFewest_19 rfl (lv_at hl 2 rfl) ?_
          refine va_get (D := (dC, dI)) (ci := 2) (v := .ref (a 18)) (C := RX2) (T := TX2) (N := 4) hx hb hts (fun w h => List.mem_cons_of_mem _ (iw_X2 w h)) hown hK hP 17 rfl rfl 0 (by decide) (hts _ (List.mem_cons_of_mem _ fl_X2_rowsOfArea)) (fun _ h9 => h9) rfl dX2_areaOfFewest_20 ?_
          refine lv_iload_n hx hb dX2_areaOfFewest_23 rfl (lv_at hl 0 rfl) ?_
          refine wi_ald hx hb hK hP 18 0 rfl rfl (k := k) (by omega) (by decide) dX2_areaOfFewest_24 ?_
          refine lv_if_le (tgt := 32) hx hb dX2_areaOfFewest_25 (by decide) (fun c25 => ?_) (fun c25 => ?_)
          · have n25 := Int32.not_lt.mpr c25
            refine lv_iconst (v := 0) hx hb dX2_areaOfFewest_32 (by decide) ?_
            refine lv_istore_n (lv' := [(3, .int 0), (2, .int (nI k)), (1, .int (fewI g k)), (0, .ref (a 17))]) hx hb dX2_areaOfFewest_33 rfl hl (by decide) rfl (fun ls hl => ?_)
            refine lv_iload_n hx hb dX2_areaOfFewest_34 rfl (lv_at hl 0 rfl) ?_
            refine lv_if_eq (tgt := 59) hx hb dX2_areaOfFewest_35 (by decide) (fun c35 => ?_) (fun c35 => ?_)
            · refine lv_iinc (v := nI (k + 1)) (lv' := [(2, .int (nI (k + 1))), (3, .int 0), (1, .int (fewI g k)), (0, .ref (a 17))]) hx hb dX2_areaOfFewest_59 hl (k := 1) rfl (nI_1 k) (by decide) rfl (fun ls hl => ?_)
              refine lv_goto (tgt := 4) hx hb dX2_areaOfFewest_62 (by decide) ?_
              exact ih (k + 1) (by omega) (by omega) (by omega) _ (by simp [fewI, canB, c7, n7, c16, c25, n25]) ls (lv_sub hl [0, 2, 3] rfl)
            · exact absurd c35 (by decide)
          · have n25 := Int32.not_le.mp c25
            refine lv_iconst (v := 1) hx hb dX2_areaOfFewest_28 (by decide) ?_
            refine lv_goto (tgt := 33) hx hb dX2_areaOfFewest_29 (by decide) ?_
            refine lv_istore_n (lv' := [(3, .int 1), (2, .int (nI k)), (1, .int (fewI g k)), (0, .ref (a 17))]) hx hb dX2_areaOfFewest_33 rfl hl (by decide) rfl (fun ls hl => ?_)
            refine lv_iload_n hx hb dX2_areaOfFewest_34 rfl (lv_at hl 0 rfl) ?_
            refine lv_if_eq (tgt := 59) hx hb dX2_areaOfFewest_35 (by decide) (fun c35 => ?_) (fun c35 => ?_)
            · exact absurd c35 (by decide)
            · refine lv_iload_n hx hb dX2_areaOfFewest_38 rfl (lv_at hl 2 rfl) ?_
              refine lv_if_lt (tgt := 57) hx hb dX2_areaOfFewest_39 (by decide) (fun c39 => ?_) (fun c39 => ?_)
              · have n39 := Int32.not_le.mpr c39
                refine lv_iload_n hx hb dX2_areaOfFewest_57 rfl (lv_at hl 1 rfl) ?_
                refine lv_istore_n (lv' := [(1, .int (nI k)), (3, .int 1), (2, .int (nI k)), (0, .ref (a 17))]) hx hb dX2_areaOfFewest_58 rfl hl (by decide) rfl (fun ls hl => ?_)
                refine lv_iinc (v := nI (k + 1)) (lv' := [(2, .int (nI (k + 1))), (1, .int (nI k)), (3, .int 1), (0, .ref (a 17))]) hx hb dX2_areaOfFewest_59 hl (k := 2) rfl (nI_1 k) (by decide) rfl (fun ls hl => ?_)
                refine lv_goto (tgt := 4) hx hb dX2_areaOfFewest_62 (by decide) ?_
                exact ih (k + 1) (by omega) (by omega) (by omega) _ (by simp [fewI, canB, c7, n7, c16, c25, n25, c39, n39]) ls (lv_sub hl [0, 1, 3] rfl)
              · have n39 := Int32.not_lt.mp c39
                refine lv_aload_n hx hb dX2_areaOfFewest_42 rfl (lv_at hl 3 rfl) ?_
                refine va_get (D := (dC, dI)) (ci := 2) (v := .ref (a 18)) (C := RX2) (T := TX2) (N := 4) hx hb hts (fun w h => List.mem_cons_of_mem _ (iw_X2 w h)) hown hK hP 17 rfl rfl 0 (by decide) (hts _ (List.mem_cons_of_mem _ fl_X2_rowsOfArea)) (fun _ h9 => h9) rfl dX2_areaOfFewest_43 ?_
                refine lv_iload_n hx hb dX2_areaOfFewest_46 rfl (lv_at hl 1 rfl) ?_
                refine wi_ald hx hb hK hP 18 0 rfl rfl (k := k) (by omega) (by decide) dX2_areaOfFewest_47 ?_
                refine lv_aload_n hx hb dX2_areaOfFewest_48 rfl (lv_at hl 3 rfl) ?_
                refine va_get (D := (dC, dI)) (ci := 2) (v := .ref (a 18)) (C := RX2) (T := TX2) (N := 4) hx hb hts (fun w h => List.mem_cons_of_mem _ (iw_X2 w h)) hown hK hP 17 rfl rfl 0 (by decide) (hts _ (List.mem_cons_of_mem _ fl_X2_rowsOfArea)) (fun _ h9 => h9) rfl dX2_areaOfFewest_49 ?_
                refine lv_iload_n hx hb dX2_areaOfFewest_52 rfl (lv_at hl 2 rfl) ?_
                refine va_iald hx hb hK hP 18 0 rfl rfl (fewI_at g hkn c39) dX2_areaOfFewest_53 ?_
                refine lv_icmp_ge (tgt := 59) hx hb dX2_areaOfFewest_54 (by decide) (fun c54 => ?_) (fun c54 => ?_)
                · have n54 := Int32.not_lt.mpr c54
                  refine lv_iinc (v := nI (k + 1)) (lv' := [(2, .int (nI (k + 1))), (3, .int 1), (1, .int (fewI g k)), (0, .ref (a 17))]) hx hb dX2_areaOfFewest_59 hl (k := 1) rfl (nI_1 k) (by decide) rfl (fun ls hl => ?_)
                  refine lv_goto (tgt := 4) hx hb dX2_areaOfFewest_62 (by decide) ?_
                  exact ih (k + 1) (by omega) (by omega) (by omega) _ (by simp [fewI, canB, c7, n7, c16, c25, n25, c39, n39, c54, n54]) ls (lv_sub hl [0, 2, 3] rfl)
                · have n54 := Int32.not_le.mp c54
                  refine lv_iload_n hx hb dX2_areaOfFewest_57 rfl (lv_at hl 1 rfl) ?_
                  refine lv_istore_n (lv' := [(1, .int (nI k)), (3, .int 1), (2, .int (nI k)), (0, .ref (a 17))]) hx hb dX2_areaOfFewest_58 rfl hl (by decide) rfl (fun ls hl => ?_)
                  refine lv_iinc (v := nI (k + 1)) (lv' := [(2, .int (nI (k + 1))), (1, .int (nI k)), (3, .int 1), (0, .ref (a 17))]) hx hb dX2_areaOfFewest_59 hl (k := 2) rfl (nI_1 k) (by decide) rfl (fun ls hl => ?_)
                  refine lv_goto (tgt := 4) hx hb dX2_areaOfFewest_62 (by decide) ?_
                  exact ih (k + 1) (by omega) (by omega) (by omega) _ (by simp [fewI, canB, c7, n7, c16, c25, n25, c39, n39, c54, n54]) ls (lv_sub hl [0, 1, 3] rfl)
  exact lp (10 + 1) 0 (by omega) (by omega) (by omega) _ (rfl) ls (lv_sub hl [0, 1, 2] rfl)
set_option maxHeartbeats 4000000 in
set_option maxRecDepth 100000 in
theorem c_together (l : Launch) (dC : Nat → ClassId) (dI : Nat → Nat → Nat) (cI cZ cJ : ClassId) (a : Nat → Nat) (v : Nat → Int32) (g : Nat → Nat → Int32)  : Met l yX2_rowsTogether wsX2_rowsTogether ({ frames := 0, cells := 0, slots := 0, locals := 0 }) (va_Pc [.ref (a 17)] (fun U => va_P (dC, dI) clA (wA cI cZ a v g) U.heap ∧ va_K (dC, dI) clA (tyA cI cZ cJ) U)) (vp_Si (fun r => r = v 8)) 0 0 (fun _ => False) := by
  refine Met.ofW (cc := cX2_rowsTogether) (maxL := 1) (ret := (some .int)) (by decide) rfl ?_
  intro p e s m args below meth c s₁ B hml hv
  obtain ⟨rfl, hP, hK⟩ := hv
  have hx := B.exec
  have hb := B.bytes
  have hr := B.returns
  have hts := atoms_spec (ws := wsX2_rowsTogether) B.pre
  have hown : s.vm.findClass RX2 = some m.cls := findClass_of_methodNamed B.named
  have hlocks := B.notSynchronized
  have hl := lv_entry ([.ref (a 17)]) (n := 1) (Nat.le_of_ble_eq_true rfl)
  rw [lg_entry_eq]
  generalize (lg_sl ([.ref (a 17)]) ++ List.replicate (1 - (lg_sl ([.ref (a 17)])).length) Slot.unset).toArray = ls at hl ⊢
  have hl : lv_has ls 1 [(0, .ref (a 17))] := hl
  refine lv_aload_n hx hb dX2_rowsTogether_0 rfl (lv_at hl 0 rfl) ?_
  refine va_get (D := (dC, dI)) (ci := 2) (v := .int (v 8)) (C := RX2) (T := TX2) (N := 4) hx hb hts (fun w h => List.mem_cons_of_mem _ (iw_X2 w h)) hown hK hP 17 rfl rfl 3 (by decide) (hts _ (List.mem_cons_of_mem _ fl_X2_together)) (fun _ h9 => h9) rfl dX2_rowsTogether_1 ?_
  exact W.iret (v := v 8) hx hb hr (fun t ht hW => ⟨_, rfl, rfl, ht⟩) (fun _ h => absurd h List.not_mem_nil) dX2_rowsTogether_4
set_option maxHeartbeats 4000000 in
set_option maxRecDepth 100000 in
theorem c_shownA (l : Launch) (dC : Nat → ClassId) (dI : Nat → Nat → Nat) (cI cZ cJ : ClassId) (a : Nat → Nat) (v : Nat → Int32) (g : Nat → Nat → Int32) (j : Nat) (hj : j < 10) : Met l yX2_rowsShown wsX2_rowsShown ({ frames := 0, cells := 0, slots := 0, locals := 0 }) (va_Pc [.ref (a 17), .int (nI j)] (fun U => va_P (dC, dI) clA (wA cI cZ a v g) U.heap ∧ va_K (dC, dI) clA (tyA cI cZ cJ) U)) (vp_Si (fun r => r = (if g 14 j = 0 then g 13 j else -1))) 0 0 (fun _ => False) := by
  refine Met.ofW (cc := cX2_rowsShown) (maxL := 2) (ret := (some .int)) (by decide) rfl ?_
  intro p e s m args below meth c s₁ B hml hv
  obtain ⟨rfl, hP, hK⟩ := hv
  have hx := B.exec
  have hb := B.bytes
  have hr := B.returns
  have hts := atoms_spec (ws := wsX2_rowsShown) B.pre
  have hown : s.vm.findClass RX2 = some m.cls := findClass_of_methodNamed B.named
  have hlocks := B.notSynchronized
  have hl := lv_entry ([.ref (a 17), .int (nI j)]) (n := 2) (Nat.le_of_ble_eq_true rfl)
  rw [lg_entry_eq]
  generalize (lg_sl ([.ref (a 17), .int (nI j)]) ++ List.replicate (2 - (lg_sl ([.ref (a 17), .int (nI j)])).length) Slot.unset).toArray = ls at hl ⊢
  have hl : lv_has ls 2 [(0, .ref (a 17)), (1, .int (nI j))] := hl
  refine lv_iload_n hx hb dX2_rowsShown_0 rfl (lv_at hl 1 rfl) ?_
  refine lv_if_lt (tgt := 19) hx hb dX2_rowsShown_1 (by decide) (fun c1 => ?_) (fun c1 => ?_)
  · exact absurd c1 (nI_pos (by omega))
  · refine lv_iload_n hx hb dX2_rowsShown_4 rfl (lv_at hl 1 rfl) ?_
    refine lv_bipush (v := 10) hx hb dX2_rowsShown_5 (by decide) ?_
    refine lv_icmp_ge (tgt := 19) hx hb dX2_rowsShown_7 (by decide) (fun c7 => ?_) (fun c7 => ?_)
    · exact absurd c7 (nI_ge (a := j) (b := 10) hj (by decide))
    · refine lv_aload_n hx hb dX2_rowsShown_10 rfl (lv_at hl 0 rfl) ?_
      refine va_get (D := (dC, dI)) (ci := 2) (v := .ref (a 19)) (C := RX2) (T := TX2) (N := 4) hx hb hts (fun w h => List.mem_cons_of_mem _ (iw_X2 w h)) hown hK hP 17 rfl rfl 1 (by decide) (hts _ (List.mem_cons_of_mem _ fl_X2_isJoined)) (fun _ h9 => h9) rfl dX2_rowsShown_11 ?_
      refine lv_iload_n hx hb dX2_rowsShown_14 rfl (lv_at hl 1 rfl) ?_
      refine wz_ald hx hb hK hP 19 1 rfl rfl (k := j) (by omega) (by decide) dX2_rowsShown_15 ?_
      refine lv_if_eq (tgt := 21) hx hb dX2_rowsShown_16 (by decide) (fun c16 => ?_) (fun c16 => ?_)
      · refine lv_aload_n hx hb dX2_rowsShown_21 rfl (lv_at hl 0 rfl) ?_
        refine va_get (D := (dC, dI)) (ci := 2) (v := .ref (a 18)) (C := RX2) (T := TX2) (N := 4) hx hb hts (fun w h => List.mem_cons_of_mem _ (iw_X2 w h)) hown hK hP 17 rfl rfl 0 (by decide) (hts _ (List.mem_cons_of_mem _ fl_X2_rowsOfArea)) (fun _ h9 => h9) rfl dX2_rowsShown_22 ?_
        refine lv_iload_n hx hb dX2_rowsShown_25 rfl (lv_at hl 1 rfl) ?_
        refine wi_ald hx hb hK hP 18 0 rfl rfl (k := j) (by omega) (by decide) dX2_rowsShown_26 ?_
        exact W.iret (v := g 13 j) hx hb hr (fun t ht hW => ⟨_, rfl, (by simp [c16]), ht⟩) (fun _ h => absurd h List.not_mem_nil) dX2_rowsShown_27
      · refine lv_iconst (v := (-1)) hx hb dX2_rowsShown_19 (by decide) ?_
        exact W.iret (v := -1) hx hb hr (fun t ht hW => ⟨_, rfl, (by simp [c16]), ht⟩) (fun _ h => absurd h List.not_mem_nil) dX2_rowsShown_20
set_option maxHeartbeats 4000000 in
set_option maxRecDepth 100000 in
theorem c_gcd (l : Launch) (dC : Nat → ClassId) (dI : Nat → Nat → Nat) (cI cZ cJ : ClassId) (a : Nat → Nat) (v : Nat → Int32) (g : Nat → Nat → Int32) (x y : Int32) : Met l yX4_commonDivisor wsX4_commonDivisor ({ frames := 0, cells := 0, slots := 0, locals := 0 }) (va_Pc [.int x, .int y] (fun U => va_P (dC, dI) clA (wA cI cZ a v g) U.heap ∧ va_K (dC, dI) clA (tyA cI cZ cJ) U)) (vp_Si (fun r => r = gcdI x y)) 0 0 (fun _ => False) := by
  refine Met.ofW (cc := cX4_commonDivisor) (maxL := 6) (ret := (some .int)) (by decide) rfl ?_
  intro p e s m args below meth c s₁ B hml hv
  obtain ⟨rfl, hP, hK⟩ := hv
  have hx := B.exec
  have hb := B.bytes
  have hr := B.returns
  have hts := atoms_spec (ws := wsX4_commonDivisor) B.pre
  have hown : s.vm.findClass RX4 = some m.cls := findClass_of_methodNamed B.named
  have hlocks := B.notSynchronized
  have hl := lv_entry ([.int x, .int y]) (n := 6) (Nat.le_of_ble_eq_true rfl)
  rw [lg_entry_eq]
  generalize (lg_sl ([.int x, .int y]) ++ List.replicate (6 - (lg_sl ([.int x, .int y])).length) Slot.unset).toArray = ls at hl ⊢
  have hl : lv_has ls 6 [(0, .int x), (1, .int y)] := hl
  refine lv_iload_n hx hb dX4_commonDivisor_0 rfl (lv_at hl 0 rfl) ?_
  refine lv_istore_n (lv' := [(2, .int x), (0, .int x), (1, .int y)]) hx hb dX4_commonDivisor_1 rfl hl (by decide) rfl (fun ls hl => ?_)
  refine lv_iload_n hx hb dX4_commonDivisor_2 rfl (lv_at hl 2 rfl) ?_
  refine lv_istore_n (lv' := [(3, .int y), (2, .int x), (0, .int x), (1, .int y)]) hx hb dX4_commonDivisor_3 rfl hl (by decide) rfl (fun ls hl => ?_)
  refine lv_iconst (v := 0) hx hb dX4_commonDivisor_4 (by decide) ?_
  refine lv_istore (lv' := [(4, .int 0), (3, .int y), (2, .int x), (0, .int x), (1, .int y)]) hx hb dX4_commonDivisor_5 hl (by decide) rfl (fun ls hl => ?_)
  have lp : ∀ (d k : Nat), 0 ≤ k → k ≤ 64 → 64 + 1 ≤ k + d → ∀ (gr re : Int32), gr = (eu x y k).1 → re = (eu x y k).2 → ∀ (ls : Array Slot), lv_has ls 6 [(4, .int (nI k)), (2, .int gr), (3, .int re), (0, .int x), (1, .int y)] → W p l e (headSpec wsX4_commonDivisor ({ frames := 0, cells := 0, slots := 0, locals := 0 })).room s m ([.int x, .int y] : List Value).toArray below meth c s.heap [] 0 0 (MQ below (vp_Si (fun r => r = gcdI x y)) ([.int x, .int y] : List Value).toArray s 0 0 (fun _ => False)) (F0 m 7 ls []) := by
    intro d
    induction d with
    | zero => intro k h0 h1 h2; exact absurd h2 (by omega)
    | succ d ih =>
      intro k hk0 hkn hkd gr re ea_gr ea_re ls hl
      subst ea_gr ea_re
      refine lv_iload hx hb dX4_commonDivisor_7 (lv_at hl 0 rfl) ?_
      refine lv_bipush (v := 64) hx hb dX4_commonDivisor_9 (by decide) ?_
      refine lv_icmp_ge (tgt := 34) hx hb dX4_commonDivisor_11 (by decide) (fun c11 => ?_) (fun c11 => ?_)
      · have n11 := Int32.not_lt.mpr c11
        have hkn2 : k = 64 := Nat.le_antisymm hkn ((nI_leI (a := 64) (b := k) (by decide) (by omega)).mp c11)
        refine lv_iload_n hx hb dX4_commonDivisor_34 rfl (lv_at hl 1 rfl) ?_
        exact W.iret (v := (eu x y k).1) hx hb hr (fun t ht hW => ⟨_, rfl, (eu_64 x y hkn2), ht⟩) (fun _ h => absurd h List.not_mem_nil) dX4_commonDivisor_35
      · have n11 := Int32.not_le.mp c11
        have hk : k < 64 := Nat.lt_of_not_le (fun h => c11 (nI_le (a := 64) h (by omega)))
        refine lv_iload_n hx hb dX4_commonDivisor_14 rfl (lv_at hl 2 rfl) ?_
        refine lv_if_eq (tgt := 34) hx hb dX4_commonDivisor_15 (by decide) (fun c15 => ?_) (fun c15 => ?_)
        · refine lv_iload_n hx hb dX4_commonDivisor_34 rfl (lv_at hl 1 rfl) ?_
          exact W.iret (v := (eu x y k).1) hx hb hr (fun t ht hW => ⟨_, rfl, (eu_end x y hkn c15), ht⟩) (fun _ h => absurd h List.not_mem_nil) dX4_commonDivisor_35
        · refine lv_iload_n hx hb dX4_commonDivisor_18 rfl (lv_at hl 1 rfl) ?_
          refine lv_iload_n hx hb dX4_commonDivisor_19 rfl (lv_at hl 2 rfl) ?_
          refine lv_irem hx hb dX4_commonDivisor_20 c15 ?_
          refine lv_istore (lv' := [(5, .int (((eu x y k).1) - ((eu x y k).1) / ((eu x y k).2) * ((eu x y k).2))), (4, .int (nI k)), (2, .int ((eu x y k).1)), (3, .int ((eu x y k).2)), (0, .int x), (1, .int y)]) hx hb dX4_commonDivisor_21 hl (by decide) rfl (fun ls hl => ?_)
          refine lv_iload_n hx hb dX4_commonDivisor_23 rfl (lv_at hl 3 rfl) ?_
          refine lv_istore_n (lv' := [(2, .int ((eu x y k).2)), (5, .int (((eu x y k).1) - ((eu x y k).1) / ((eu x y k).2) * ((eu x y k).2))), (4, .int (nI k)), (3, .int ((eu x y k).2)), (0, .int x), (1, .int y)]) hx hb dX4_commonDivisor_24 rfl hl (by decide) rfl (fun ls hl => ?_)
          refine lv_iload hx hb dX4_commonDivisor_25 (lv_at hl 1 rfl) ?_
          refine lv_istore_n (lv' := [(3, .int (((eu x y k).1) - ((eu x y k).1) / ((eu x y k).2) * ((eu x y k).2))), (2, .int ((eu x y k).2)), (5, .int (((eu x y k).1) - ((eu x y k).1) / ((eu x y k).2) * ((eu x y k).2))), (4, .int (nI k)), (0, .int x), (1, .int y)]) hx hb dX4_commonDivisor_27 rfl hl (by decide) rfl (fun ls hl => ?_)
          refine lv_iinc (v := nI (k + 1)) (lv' := [(4, .int (nI (k + 1))), (3, .int (((eu x y k).1) - ((eu x y k).1) / ((eu x y k).2) * ((eu x y k).2))), (2, .int ((eu x y k).2)), (5, .int (((eu x y k).1) - ((eu x y k).1) / ((eu x y k).2) * ((eu x y k).2))), (0, .int x), (1, .int y)]) hx hb dX4_commonDivisor_28 hl (k := 3) rfl (nI_1 k) (by decide) rfl (fun ls hl => ?_)
          refine lv_goto (tgt := 7) hx hb dX4_commonDivisor_31 (by decide) ?_
          exact ih (k + 1) (by omega) (by omega) (by omega) _ _ (by simp [eu, c11, n11, c15]) (by simp [eu, c11, n11, c15]) ls (lv_sub hl [0, 2, 1, 4, 5] rfl)
  exact lp (64 + 1) 0 (by omega) (by omega) (by omega) _ _ (rfl) (rfl) ls (lv_sub hl [0, 2, 1, 3, 4] rfl)
set_option maxHeartbeats 4000000 in
set_option maxRecDepth 100000 in
theorem c_lowest (l : Launch) (dC : Nat → ClassId) (dI : Nat → Nat → Nat) (cI cZ cJ : ClassId) (a : Nat → Nat) (v : Nat → Int32) (g : Nat → Nat → Int32) (z x y : Int32) : Met l yX4_inLowestTerms wsX4_inLowestTerms ({ frames := 1, cells := 0, slots := 0, locals := 25 }) (va_Pc [.int z, .int x, .int y] (fun U => va_P (dC, dI) clA (wA cI cZ a v g) U.heap ∧ va_K (dC, dI) clA (tyA cI cZ cJ) U)) (vp_Si (fun r => r = lowT z x y)) 0 0 (fun _ => False) := by
  refine Met.ofW (cc := cX4_inLowestTerms) (maxL := 4) (ret := (some .int)) (by decide) rfl ?_
  intro p e s m args below meth c s₁ B hml hv
  obtain ⟨rfl, hP, hK⟩ := hv
  have hx := B.exec
  have hb := B.bytes
  have hr := B.returns
  have hts := atoms_spec (ws := wsX4_inLowestTerms) B.pre
  have hown : s.vm.findClass RX4 = some m.cls := findClass_of_methodNamed B.named
  have hlocks := B.notSynchronized
  have hl := lv_entry ([.int z, .int x, .int y]) (n := 4) (Nat.le_of_ble_eq_true rfl)
  rw [lg_entry_eq]
  generalize (lg_sl ([.int z, .int x, .int y]) ++ List.replicate (4 - (lg_sl ([.int z, .int x, .int y])).length) Slot.unset).toArray = ls at hl ⊢
  have hl : lv_has ls 4 [(0, .int z), (1, .int x), (2, .int y)] := hl
  refine lv_iload_n hx hb dX4_inLowestTerms_0 rfl (lv_at hl 1 rfl) ?_
  refine lv_iload_n hx hb dX4_inLowestTerms_1 rfl (lv_at hl 2 rfl) ?_
  refine vp_callSi (W.runS (As := [.int x, .int y]) (rest := []) ⟨hx, hb, hml, hown, hts⟩ (c_gcd l dC dI cI cZ cJ a v g x y) (cwS 2 hts (gd_S ml_X4_X4_commonDivisor sm_X4_commonDivisor in_X4 kX4_commonDivisor) rfl rfl rfl (by decide +kernel) ⟨Nat.le_of_ble_eq_true rfl, Nat.le_of_ble_eq_true rfl⟩) ⟨fun _ U g mk q => by obtain ⟨q0, qP, qK⟩ := q; exact ⟨q0, qP, va_K.moved (u := U) (U := U.calling g mk _) (Vm.Alike.refl U.vm) qK⟩, fun U hU hW => ⟨rfl, by rw [hU]; exact hP, va_K.moved hW.alike hK⟩⟩ rfl rfl hl.1 rfl (lv_room (Nat.le_of_ble_eq_true rfl)) dX4_inLowestTerms_2 ⟨Nat.zero_le _, Nat.zero_le _⟩) (fun r2 hr2 => ?_)
  subst hr2
  refine lv_istore_n (lv' := [(3, .int (gcdI x y)), (0, .int z), (1, .int x), (2, .int y)]) hx hb dX4_inLowestTerms_5 rfl hl (by decide) rfl (fun ls hl => ?_)
  refine lv_iload_n hx hb dX4_inLowestTerms_6 rfl (lv_at hl 0 rfl) ?_
  refine lv_if_le (tgt := 16) hx hb dX4_inLowestTerms_7 (by decide) (fun c7 => ?_) (fun c7 => ?_)
  · have n7 := Int32.not_lt.mpr c7
    refine lv_iload_n hx hb dX4_inLowestTerms_16 rfl (lv_at hl 1 rfl) ?_
    exact W.iret (v := z) hx hb hr (fun t ht hW => ⟨_, rfl, (by simp [lowT, c7, n7]), ht⟩) (fun _ h => absurd h List.not_mem_nil) dX4_inLowestTerms_17
  · have n7 := Int32.not_le.mp c7
    refine lv_iload_n hx hb dX4_inLowestTerms_10 rfl (lv_at hl 1 rfl) ?_
    refine lv_iload_n hx hb dX4_inLowestTerms_11 rfl (lv_at hl 0 rfl) ?_
    refine lv_idiv hx hb dX4_inLowestTerms_12 (fun h => c7 (by rw [h]; decide)) ?_
    refine lv_goto (tgt := 17) hx hb dX4_inLowestTerms_13 (by decide) ?_
    exact W.iret (v := z / (gcdI x y)) hx hb hr (fun t ht hW => ⟨_, rfl, (by simp [lowT, c7, n7]), ht⟩) (fun _ h => absurd h List.not_mem_nil) dX4_inLowestTerms_17
set_option maxHeartbeats 4000000 in
set_option maxRecDepth 100000 in
theorem c_askedTotal (l : Launch) (dC : Nat → ClassId) (dI : Nat → Nat → Nat) (cI cZ cJ : ClassId) (a : Nat → Nat) (v : Nat → Int32) (g : Nat → Nat → Int32) (n : Nat) (hn : v 5 = nI n) (hn2 : n ≤ 200) (nd : Nat) (hnd : v 4 = nI nd) (hnd2 : nd ≤ 6) (w f t : Int32) : Met l yX4_askedTotal wsX4_askedTotal ({ frames := 5, cells := 0, slots := 0, locals := 116 }) (va_Pc [.ref (a 0), .int w, .int f, .int t] (fun U => va_P (dC, dI) clA (wA cI cZ a v g) U.heap ∧ va_K (dC, dI) clA (tyA cI cZ cJ) U)) (vp_Si (fun r => r = totI g n nd w f t (v 2) (v 3))) 0 0 (fun _ => False) := by
  refine Met.ofW (cc := cX4_askedTotal) (maxL := 4) (ret := (some .int)) (by decide) rfl ?_
  intro p e s m args below meth c s₁ B hml hv
  obtain ⟨rfl, hP, hK⟩ := hv
  have hx := B.exec
  have hb := B.bytes
  have hr := B.returns
  have hts := atoms_spec (ws := wsX4_askedTotal) B.pre
  have hown : s.vm.findClass RX4 = some m.cls := findClass_of_methodNamed B.named
  have hlocks := B.notSynchronized
  have hl := lv_entry ([.ref (a 0), .int w, .int f, .int t]) (n := 4) (Nat.le_of_ble_eq_true rfl)
  rw [lg_entry_eq]
  generalize (lg_sl ([.ref (a 0), .int w, .int f, .int t]) ++ List.replicate (4 - (lg_sl ([.ref (a 0), .int w, .int f, .int t])).length) Slot.unset).toArray = ls at hl ⊢
  have hl : lv_has ls 4 [(0, .ref (a 0)), (1, .int w), (2, .int f), (3, .int t)] := hl
  refine lv_aload_n hx hb dX4_askedTotal_0 rfl (lv_at hl 0 rfl) ?_
  refine va_get (D := (dC, dI)) (ci := 4) (v := .ref (a 5)) (C := RX4) (T := TX4) (N := 9) hx hb hts (fun w h => List.mem_cons_of_mem _ (iw_X4 w h)) hown hK hP 0 rfl rfl 1 (by decide) (hts _ (List.mem_cons_of_mem _ fl_X4_incidents)) (fun _ h9 => h9) rfl dX4_askedTotal_1 ?_
  refine lv_iload_n hx hb dX4_askedTotal_4 rfl (lv_at hl 1 rfl) ?_
  refine lv_aload_n hx hb dX4_askedTotal_5 rfl (lv_at hl 0 rfl) ?_
  refine va_get (D := (dC, dI)) (ci := 4) (v := .ref (a 2)) (C := RX4) (T := TX4) (N := 9) hx hb hts (fun w h => List.mem_cons_of_mem _ (iw_X4 w h)) hown hK hP 0 rfl rfl 0 (by decide) (hts _ (List.mem_cons_of_mem _ fl_X4_definitions)) (fun _ h9 => h9) rfl dX4_askedTotal_6 ?_
  refine lv_iload_n hx hb dX4_askedTotal_9 rfl (lv_at hl 2 rfl) ?_
  refine lv_iload_n hx hb dX4_askedTotal_10 rfl (lv_at hl 3 rfl) ?_
  refine lv_aload_n hx hb dX4_askedTotal_11 rfl (lv_at hl 0 rfl) ?_
  refine va_get (D := (dC, dI)) (ci := 4) (v := .int (v 2)) (C := RX4) (T := TX4) (N := 9) hx hb hts (fun w h => List.mem_cons_of_mem _ (iw_X4 w h)) hown hK hP 0 rfl rfl 7 (by decide) (hts _ (List.mem_cons_of_mem _ fl_X4_askedKind)) (fun _ h9 => h9) rfl dX4_askedTotal_12 ?_
  refine lv_aload_n hx hb dX4_askedTotal_15 rfl (lv_at hl 0 rfl) ?_
  refine va_get (D := (dC, dI)) (ci := 4) (v := .int (v 3)) (C := RX4) (T := TX4) (N := 9) hx hb hts (fun w h => List.mem_cons_of_mem _ (iw_X4 w h)) hown hK hP 0 rfl rfl 8 (by decide) (hts _ (List.mem_cons_of_mem _ fl_X4_askedArea)) (fun _ h9 => h9) rfl dX4_askedTotal_16 ?_
  refine vp_callSi (W.runV (As := [.int w, .ref (a 2), .int f, .int t, .int (v 2), .int (v 3)]) (rest := []) ⟨hx, hb, hml, hown, hts⟩ (c_total l dC dI cI cZ cJ a v g n hn hn2 nd hnd hnd2 w f t (v 2) (v 3)) (cwV 6 hts (gd_V ml_X4_X1_total im_X1_total se_X1_total in_X1 kX1_total) rfl rfl rfl (by decide +kernel) ⟨Nat.le_of_ble_eq_true rfl, Nat.le_of_ble_eq_true rfl⟩) ⟨fun _ U g mk q => by obtain ⟨q0, qP, qK⟩ := q; exact ⟨q0, qP, va_K.moved (u := U) (U := U.calling g mk _) (Vm.Alike.refl U.vm) qK⟩, va_recv hK hP (ci := 1) (q0 := 5) rfl rfl, fun U hU hW => ⟨rfl, by rw [hU]; exact hP, va_K.moved hW.alike hK⟩⟩ rfl rfl hl.1 rfl (lv_room (Nat.le_of_ble_eq_true rfl)) dX4_askedTotal_19 ⟨Nat.zero_le _, Nat.zero_le _⟩) (fun r19 hr19 => ?_)
  subst hr19
  exact W.iret (v := totI g n nd w f t (v 2) (v 3)) hx hb hr (fun t ht hW => ⟨_, rfl, rfl, ht⟩) (fun _ h => absurd h List.not_mem_nil) dX4_askedTotal_22
set_option maxHeartbeats 4000000 in
set_option maxRecDepth 100000 in
theorem c_rowsWithin (l : Launch) (dC : Nat → ClassId) (dI : Nat → Nat → Nat) (cI cZ cJ : ClassId) (a : Nat → Nat) (v : Nat → Int32) (g : Nat → Nat → Int32) (n : Nat) (hn : v 5 = nI n) (hn2 : n ≤ 200) (nd : Nat) (hnd : v 4 = nI nd) (hnd2 : nd ≤ 6) (f t : Int32) : Met l yX4_rowsWithin wsX4_rowsWithin ({ frames := 6, cells := 0, slots := 0, locals := 139 }) (va_Pc [.ref (a 0), .int f, .int t] (fun U => va_P (dC, dI) clA (wA cI cZ a v g) U.heap ∧ va_K (dC, dI) clA (tyA cI cZ cJ) U)) (vp_Si (fun r => r = totI g n nd 2 f t (v 2) (v 3))) 0 0 (fun _ => False) := by
  refine Met.ofW (cc := cX4_rowsWithin) (maxL := 3) (ret := (some .int)) (by decide) rfl ?_
  intro p e s m args below meth c s₁ B hml hv
  obtain ⟨rfl, hP, hK⟩ := hv
  have hx := B.exec
  have hb := B.bytes
  have hr := B.returns
  have hts := atoms_spec (ws := wsX4_rowsWithin) B.pre
  have hown : s.vm.findClass RX4 = some m.cls := findClass_of_methodNamed B.named
  have hlocks := B.notSynchronized
  have hl := lv_entry ([.ref (a 0), .int f, .int t]) (n := 3) (Nat.le_of_ble_eq_true rfl)
  rw [lg_entry_eq]
  generalize (lg_sl ([.ref (a 0), .int f, .int t]) ++ List.replicate (3 - (lg_sl ([.ref (a 0), .int f, .int t])).length) Slot.unset).toArray = ls at hl ⊢
  have hl : lv_has ls 3 [(0, .ref (a 0)), (1, .int f), (2, .int t)] := hl
  refine lv_aload_n hx hb dX4_rowsWithin_0 rfl (lv_at hl 0 rfl) ?_
  refine lv_iconst (v := 2) hx hb dX4_rowsWithin_1 (by decide) ?_
  refine lv_iload_n hx hb dX4_rowsWithin_2 rfl (lv_at hl 1 rfl) ?_
  refine lv_iload_n hx hb dX4_rowsWithin_3 rfl (lv_at hl 2 rfl) ?_
  refine vp_callSi (W.runV (As := [.int 2, .int f, .int t]) (rest := []) ⟨hx, hb, hml, hown, hts⟩ (c_askedTotal l dC dI cI cZ cJ a v g n hn hn2 nd hnd hnd2 2 f t) (cwV 3 hts (gd_V ml_X4_X4_askedTotal im_X4_askedTotal se_X4_askedTotal in_X4 kX4_askedTotal) rfl rfl rfl (by decide +kernel) ⟨Nat.le_of_ble_eq_true rfl, Nat.le_of_ble_eq_true rfl⟩) ⟨fun _ U g mk q => by obtain ⟨q0, qP, qK⟩ := q; exact ⟨q0, qP, va_K.moved (u := U) (U := U.calling g mk _) (Vm.Alike.refl U.vm) qK⟩, va_recv hK hP (ci := 4) (q0 := 0) rfl rfl, fun U hU hW => ⟨rfl, by rw [hU]; exact hP, va_K.moved hW.alike hK⟩⟩ rfl rfl hl.1 rfl (lv_room (Nat.le_of_ble_eq_true rfl)) dX4_rowsWithin_4 ⟨Nat.zero_le _, Nat.zero_le _⟩) (fun r4 hr4 => ?_)
  subst hr4
  exact W.iret (v := totI g n nd 2 f t (v 2) (v 3)) hx hb hr (fun t ht hW => ⟨_, rfl, rfl, ht⟩) (fun _ h => absurd h List.not_mem_nil) dX4_rowsWithin_7
set_option maxHeartbeats 4000000 in
set_option maxRecDepth 100000 in
theorem c_rowsNot (l : Launch) (dC : Nat → ClassId) (dI : Nat → Nat → Nat) (cI cZ cJ : ClassId) (a : Nat → Nat) (v : Nat → Int32) (g : Nat → Nat → Int32) (n : Nat) (hn : v 5 = nI n) (hn2 : n ≤ 200) (nd : Nat) (hnd : v 4 = nI nd) (hnd2 : nd ≤ 6) (f t : Int32) : Met l yX4_rowsNotWithout wsX4_rowsNotWithout ({ frames := 6, cells := 0, slots := 0, locals := 139 }) (va_Pc [.ref (a 0), .int f, .int t] (fun U => va_P (dC, dI) clA (wA cI cZ a v g) U.heap ∧ va_K (dC, dI) clA (tyA cI cZ cJ) U)) (vp_Si (fun r => r = totI g n nd 0 f t (v 2) (v 3) - totI g n nd 3 f t (v 2) (v 3))) 0 0 (fun _ => False) := by
  refine Met.ofW (cc := cX4_rowsNotWithout) (maxL := 3) (ret := (some .int)) (by decide) rfl ?_
  intro p e s m args below meth c s₁ B hml hv
  obtain ⟨rfl, hP, hK⟩ := hv
  have hx := B.exec
  have hb := B.bytes
  have hr := B.returns
  have hts := atoms_spec (ws := wsX4_rowsNotWithout) B.pre
  have hown : s.vm.findClass RX4 = some m.cls := findClass_of_methodNamed B.named
  have hlocks := B.notSynchronized
  have hl := lv_entry ([.ref (a 0), .int f, .int t]) (n := 3) (Nat.le_of_ble_eq_true rfl)
  rw [lg_entry_eq]
  generalize (lg_sl ([.ref (a 0), .int f, .int t]) ++ List.replicate (3 - (lg_sl ([.ref (a 0), .int f, .int t])).length) Slot.unset).toArray = ls at hl ⊢
  have hl : lv_has ls 3 [(0, .ref (a 0)), (1, .int f), (2, .int t)] := hl
  refine lv_aload_n hx hb dX4_rowsNotWithout_0 rfl (lv_at hl 0 rfl) ?_
  refine lv_iconst (v := 0) hx hb dX4_rowsNotWithout_1 (by decide) ?_
  refine lv_iload_n hx hb dX4_rowsNotWithout_2 rfl (lv_at hl 1 rfl) ?_
  refine lv_iload_n hx hb dX4_rowsNotWithout_3 rfl (lv_at hl 2 rfl) ?_
  refine vp_callSi (W.runV (As := [.int 0, .int f, .int t]) (rest := []) ⟨hx, hb, hml, hown, hts⟩ (c_askedTotal l dC dI cI cZ cJ a v g n hn hn2 nd hnd hnd2 0 f t) (cwV 3 hts (gd_V ml_X4_X4_askedTotal im_X4_askedTotal se_X4_askedTotal in_X4 kX4_askedTotal) rfl rfl rfl (by decide +kernel) ⟨Nat.le_of_ble_eq_true rfl, Nat.le_of_ble_eq_true rfl⟩) ⟨fun _ U g mk q => by obtain ⟨q0, qP, qK⟩ := q; exact ⟨q0, qP, va_K.moved (u := U) (U := U.calling g mk _) (Vm.Alike.refl U.vm) qK⟩, va_recv hK hP (ci := 4) (q0 := 0) rfl rfl, fun U hU hW => ⟨rfl, by rw [hU]; exact hP, va_K.moved hW.alike hK⟩⟩ rfl rfl hl.1 rfl (lv_room (Nat.le_of_ble_eq_true rfl)) dX4_rowsNotWithout_4 ⟨Nat.zero_le _, Nat.zero_le _⟩) (fun r4 hr4 => ?_)
  subst hr4
  refine lv_aload_n hx hb dX4_rowsNotWithout_7 rfl (lv_at hl 0 rfl) ?_
  refine lv_iconst (v := 3) hx hb dX4_rowsNotWithout_8 (by decide) ?_
  refine lv_iload_n hx hb dX4_rowsNotWithout_9 rfl (lv_at hl 1 rfl) ?_
  refine lv_iload_n hx hb dX4_rowsNotWithout_10 rfl (lv_at hl 2 rfl) ?_
  refine vp_callSi (W.runV (As := [.int 3, .int f, .int t]) (rest := [.int (totI g n nd 0 f t (v 2) (v 3))]) ⟨hx, hb, hml, hown, hts⟩ (c_askedTotal l dC dI cI cZ cJ a v g n hn hn2 nd hnd hnd2 3 f t) (cwV 3 hts (gd_V ml_X4_X4_askedTotal im_X4_askedTotal se_X4_askedTotal in_X4 kX4_askedTotal) rfl rfl rfl (by decide +kernel) ⟨Nat.le_of_ble_eq_true rfl, Nat.le_of_ble_eq_true rfl⟩) ⟨fun _ U g mk q => by obtain ⟨q0, qP, qK⟩ := q; exact ⟨q0, qP, va_K.moved (u := U) (U := U.calling g mk _) (Vm.Alike.refl U.vm) qK⟩, va_recv hK hP (ci := 4) (q0 := 0) rfl rfl, fun U hU hW => ⟨rfl, by rw [hU]; exact hP, va_K.moved hW.alike hK⟩⟩ rfl rfl hl.1 rfl (lv_room (Nat.le_of_ble_eq_true rfl)) dX4_rowsNotWithout_11 ⟨Nat.zero_le _, Nat.zero_le _⟩) (fun r11 hr11 => ?_)
  subst hr11
  refine lv_isub hx hb dX4_rowsNotWithout_14 ?_
  exact W.iret (v := (totI g n nd 0 f t (v 2) (v 3)) - (totI g n nd 3 f t (v 2) (v 3))) hx hb hr (fun t ht hW => ⟨_, rfl, rfl, ht⟩) (fun _ h => absurd h List.not_mem_nil) dX4_rowsNotWithout_15
set_option maxHeartbeats 4000000 in
set_option maxRecDepth 100000 in
theorem c_rowsOfArea (l : Launch) (dC : Nat → ClassId) (dI : Nat → Nat → Nat) (cI cZ cJ : ClassId) (a : Nat → Nat) (v : Nat → Int32) (g : Nat → Nat → Int32) (n : Nat) (hn : v 5 = nI n) (hn2 : n ≤ 200) (ar : Int32) : Met l yX4_rowsOfArea wsX4_rowsOfArea ({ frames := 3, cells := 0, slots := 0, locals := 74 }) (va_Pc [.ref (a 0), .int ar] (fun U => va_P (dC, dI) clA (wA cI cZ a v g) U.heap ∧ va_K (dC, dI) clA (tyA cI cZ cJ) U)) (vp_Si (fun r => r = cnt (fun i => askB g i (v 0) (v 1) (v 2) ar) n)) 0 0 (fun _ => False) := by
  refine Met.ofW (cc := cX4_rowsOfArea) (maxL := 2) (ret := (some .int)) (by decide) rfl ?_
  intro p e s m args below meth c s₁ B hml hv
  obtain ⟨rfl, hP, hK⟩ := hv
  have hx := B.exec
  have hb := B.bytes
  have hr := B.returns
  have hts := atoms_spec (ws := wsX4_rowsOfArea) B.pre
  have hown : s.vm.findClass RX4 = some m.cls := findClass_of_methodNamed B.named
  have hlocks := B.notSynchronized
  have hl := lv_entry ([.ref (a 0), .int ar]) (n := 2) (Nat.le_of_ble_eq_true rfl)
  rw [lg_entry_eq]
  generalize (lg_sl ([.ref (a 0), .int ar]) ++ List.replicate (2 - (lg_sl ([.ref (a 0), .int ar])).length) Slot.unset).toArray = ls at hl ⊢
  have hl : lv_has ls 2 [(0, .ref (a 0)), (1, .int ar)] := hl
  refine lv_aload_n hx hb dX4_rowsOfArea_0 rfl (lv_at hl 0 rfl) ?_
  refine va_get (D := (dC, dI)) (ci := 4) (v := .ref (a 5)) (C := RX4) (T := TX4) (N := 9) hx hb hts (fun w h => List.mem_cons_of_mem _ (iw_X4 w h)) hown hK hP 0 rfl rfl 1 (by decide) (hts _ (List.mem_cons_of_mem _ fl_X4_incidents)) (fun _ h9 => h9) rfl dX4_rowsOfArea_1 ?_
  refine lv_aload_n hx hb dX4_rowsOfArea_4 rfl (lv_at hl 0 rfl) ?_
  refine va_get (D := (dC, dI)) (ci := 4) (v := .int (v 0)) (C := RX4) (T := TX4) (N := 9) hx hb hts (fun w h => List.mem_cons_of_mem _ (iw_X4 w h)) hown hK hP 0 rfl rfl 5 (by decide) (hts _ (List.mem_cons_of_mem _ fl_X4_askedFrom)) (fun _ h9 => h9) rfl dX4_rowsOfArea_5 ?_
  refine lv_aload_n hx hb dX4_rowsOfArea_8 rfl (lv_at hl 0 rfl) ?_
  refine va_get (D := (dC, dI)) (ci := 4) (v := .int (v 1)) (C := RX4) (T := TX4) (N := 9) hx hb hts (fun w h => List.mem_cons_of_mem _ (iw_X4 w h)) hown hK hP 0 rfl rfl 6 (by decide) (hts _ (List.mem_cons_of_mem _ fl_X4_askedTo)) (fun _ h9 => h9) rfl dX4_rowsOfArea_9 ?_
  refine lv_aload_n hx hb dX4_rowsOfArea_12 rfl (lv_at hl 0 rfl) ?_
  refine va_get (D := (dC, dI)) (ci := 4) (v := .int (v 2)) (C := RX4) (T := TX4) (N := 9) hx hb hts (fun w h => List.mem_cons_of_mem _ (iw_X4 w h)) hown hK hP 0 rfl rfl 7 (by decide) (hts _ (List.mem_cons_of_mem _ fl_X4_askedKind)) (fun _ h9 => h9) rfl dX4_rowsOfArea_13 ?_
  refine lv_iload_n hx hb dX4_rowsOfArea_16 rfl (lv_at hl 1 rfl) ?_
  refine vp_callSi (W.runV (As := [.int (v 0), .int (v 1), .int (v 2), .int ar]) (rest := []) ⟨hx, hb, hml, hown, hts⟩ (c_number l dC dI cI cZ cJ a v g n hn hn2 (v 0) (v 1) (v 2) ar) (cwV 4 hts (gd_V ml_X4_X1_number im_X1_number se_X1_number in_X1 kX1_number) rfl rfl rfl (by decide +kernel) ⟨Nat.le_of_ble_eq_true rfl, Nat.le_of_ble_eq_true rfl⟩) ⟨fun _ U g mk q => by obtain ⟨q0, qP, qK⟩ := q; exact ⟨q0, qP, va_K.moved (u := U) (U := U.calling g mk _) (Vm.Alike.refl U.vm) qK⟩, va_recv hK hP (ci := 1) (q0 := 5) rfl rfl, fun U hU hW => ⟨rfl, by rw [hU]; exact hP, va_K.moved hW.alike hK⟩⟩ rfl rfl hl.1 rfl (lv_room (Nat.le_of_ble_eq_true rfl)) dX4_rowsOfArea_17 ⟨Nat.zero_le _, Nat.zero_le _⟩) (fun r17 hr17 => ?_)
  subst hr17
  exact W.iret (v := cnt (fun i => askB g i (v 0) (v 1) (v 2) ar) n) hx hb hr (fun t ht hW => ⟨_, rfl, rfl, ht⟩) (fun _ h => absurd h List.not_mem_nil) dX4_rowsOfArea_20
set_option maxHeartbeats 4000000 in
set_option maxRecDepth 100000 in
theorem c_splits (l : Launch) (dC : Nat → ClassId) (dI : Nat → Nat → Nat) (cI cZ cJ : ClassId) (a : Nat → Nat) (v : Nat → Int32) (g : Nat → Nat → Int32) (nd : Nat) (hnd : v 4 = nI nd) (hnd2 : nd ≤ 6) : Met l yX4_splits wsX4_splits ({ frames := 2, cells := 0, slots := 0, locals := 50 }) (va_Pc [.ref (a 0)] (fun U => va_P (dC, dI) clA (wA cI cZ a v g) U.heap ∧ va_K (dC, dI) clA (tyA cI cZ cJ) U)) (vp_Si (fun r => r = cnt (fun i => chgB g nd (v 0) (v 1) i) nd)) 0 0 (fun _ => False) := by
  refine Met.ofW (cc := cX4_splits) (maxL := 1) (ret := (some .int)) (by decide) rfl ?_
  intro p e s m args below meth c s₁ B hml hv
  obtain ⟨rfl, hP, hK⟩ := hv
  have hx := B.exec
  have hb := B.bytes
  have hr := B.returns
  have hts := atoms_spec (ws := wsX4_splits) B.pre
  have hown : s.vm.findClass RX4 = some m.cls := findClass_of_methodNamed B.named
  have hlocks := B.notSynchronized
  have hl := lv_entry ([.ref (a 0)]) (n := 1) (Nat.le_of_ble_eq_true rfl)
  rw [lg_entry_eq]
  generalize (lg_sl ([.ref (a 0)]) ++ List.replicate (1 - (lg_sl ([.ref (a 0)])).length) Slot.unset).toArray = ls at hl ⊢
  have hl : lv_has ls 1 [(0, .ref (a 0))] := hl
  refine lv_aload_n hx hb dX4_splits_0 rfl (lv_at hl 0 rfl) ?_
  refine va_get (D := (dC, dI)) (ci := 4) (v := .ref (a 2)) (C := RX4) (T := TX4) (N := 9) hx hb hts (fun w h => List.mem_cons_of_mem _ (iw_X4 w h)) hown hK hP 0 rfl rfl 0 (by decide) (hts _ (List.mem_cons_of_mem _ fl_X4_definitions)) (fun _ h9 => h9) rfl dX4_splits_1 ?_
  refine lv_aload_n hx hb dX4_splits_4 rfl (lv_at hl 0 rfl) ?_
  refine va_get (D := (dC, dI)) (ci := 4) (v := .int (v 0)) (C := RX4) (T := TX4) (N := 9) hx hb hts (fun w h => List.mem_cons_of_mem _ (iw_X4 w h)) hown hK hP 0 rfl rfl 5 (by decide) (hts _ (List.mem_cons_of_mem _ fl_X4_askedFrom)) (fun _ h9 => h9) rfl dX4_splits_5 ?_
  refine lv_aload_n hx hb dX4_splits_8 rfl (lv_at hl 0 rfl) ?_
  refine va_get (D := (dC, dI)) (ci := 4) (v := .int (v 1)) (C := RX4) (T := TX4) (N := 9) hx hb hts (fun w h => List.mem_cons_of_mem _ (iw_X4 w h)) hown hK hP 0 rfl rfl 6 (by decide) (hts _ (List.mem_cons_of_mem _ fl_X4_askedTo)) (fun _ h9 => h9) rfl dX4_splits_9 ?_
  refine vp_callSi (W.runV (As := [.int (v 0), .int (v 1)]) (rest := []) ⟨hx, hb, hml, hown, hts⟩ (c_changes l dC dI cI cZ cJ a v g nd hnd hnd2 (v 0) (v 1)) (cwV 2 hts (gd_V ml_X4_X0_changes im_X0_changes se_X0_changes in_X0 kX0_changes) rfl rfl rfl (by decide +kernel) ⟨Nat.le_of_ble_eq_true rfl, Nat.le_of_ble_eq_true rfl⟩) ⟨fun _ U g mk q => by obtain ⟨q0, qP, qK⟩ := q; exact ⟨q0, qP, va_K.moved (u := U) (U := U.calling g mk _) (Vm.Alike.refl U.vm) qK⟩, va_recv hK hP (ci := 0) (q0 := 2) rfl rfl, fun U hU hW => ⟨rfl, by rw [hU]; exact hP, va_K.moved hW.alike hK⟩⟩ rfl rfl hl.1 rfl (lv_room (Nat.le_of_ble_eq_true rfl)) dX4_splits_12 ⟨Nat.zero_le _, Nat.zero_le _⟩) (fun r12 hr12 => ?_)
  subst hr12
  exact W.iret (v := cnt (fun i => chgB g nd (v 0) (v 1) i) nd) hx hb hr (fun t ht hW => ⟨_, rfl, rfl, ht⟩) (fun _ h => absurd h List.not_mem_nil) dX4_splits_15
end
section

section OWNE
variable {p : Program} {l : Launch} {e : Env} {R : Room} {s : State} {m : MethodId} {args : Array Value} {below : List Frame} {meth : Method} {c : Code} {H : Heap} {locs : List Loc} {cells slots : Nat} {Q : State → Prop}
variable {cc : ByteArray} {pc : Nat} {ls : Array Slot} {rest : List Value} {D : va_G} {cl : List vw_C} {ws : va_W} {tys : List (ClassId × FieldType)} {a : Nat} {A : Nat → Prop} {H0 : Heap}
theorem wi_aldE (hexec : p.tables.exec = Jvm.exec) (hb : c.code = cc) (hK : va_K D cl tys s) (hP : va_P D cl ws H) (q0 t0 : Nat) {cA : ClassId} {n : Nat} {f : Nat → Int32} (ha : ws[q0]? = some (a, .inl (cA, n, .inl f))) (ht : tys[t0]? = some (cA, .int)) {i : Int32} {k : Nat} (hi : i = nI k) (hk : k < n) (hn : n < 2 ^ 31) (hdg : decode cc pc = .ok (.iaload, 1))
    (kk : W p l e R s m args below meth c H locs cells slots Q (F0 m (pc + 1) ls (.int (f k) :: rest))) : W p l e R s m args below meth c H locs cells slots Q (F0 m pc ls (.int i :: .ref a :: rest)) := by
  subst hi
  exact wi_ald hexec hb hK hP q0 t0 ha ht hk hn hdg kk
theorem wi_astE (hexec : p.tables.exec = Jvm.exec) (hb : c.code = cc) (hK : va_K D cl tys s) (hP : va_P D cl ws H) (hD : va_D A ws) (hS : va_S A H0 H locs) (q0 t0 : Nat) {cA : ClassId} {n : Nat} {f : Nat → Int32} (ha : ws[q0]? = some (a, .inl (cA, n, .inl f))) (ht : tys[t0]? = some (cA, .int)) {i : Int32} {k : Nat} {x : Int32} (hi : i = nI k) (hk : k < n) (hn : n < 2 ^ 31) (hdg : decode cc pc = .ok (.iastore, 1))
    (kk : ∀ (H1 : Heap) (locs1 : List Loc), va_P D cl (ws.set q0 (a, .inl (cA, n, .inl (upd f k x)))) H1 → va_D A (ws.set q0 (a, .inl (cA, n, .inl (upd f k x)))) → va_S A H0 H1 locs1 → W p l e R s m args below meth c H1 locs1 cells slots Q (F0 m (pc + 1) ls rest)) : W p l e R s m args below meth c H locs cells slots Q (F0 m pc ls (.int x :: .int i :: .ref a :: rest)) := by
  subst hi
  exact wi_ast hexec hb hK hP hD hS q0 t0 ha ht hk hn hdg kk
theorem wz_astE (hexec : p.tables.exec = Jvm.exec) (hb : c.code = cc) (hK : va_K D cl tys s) (hP : va_P D cl ws H) (hD : va_D A ws) (hS : va_S A H0 H locs) (q0 t0 : Nat) {cA : ClassId} {n : Nat} {f : Nat → Int32} (ha : ws[q0]? = some (a, .inl (cA, n, .inl f))) (ht : tys[t0]? = some (cA, .boolean)) {i : Int32} {k : Nat} {x : Int32} (hi : i = nI k) (hx1 : vp_nar .boolean x = x) (hk : k < n) (hn : n < 2 ^ 31) (hdg : decode cc pc = .ok (.bastore, 1))
    (kk : ∀ (H1 : Heap) (locs1 : List Loc), va_P D cl (ws.set q0 (a, .inl (cA, n, .inl (upd f k x)))) H1 → va_D A (ws.set q0 (a, .inl (cA, n, .inl (upd f k x)))) → va_S A H0 H1 locs1 → W p l e R s m args below meth c H1 locs1 cells slots Q (F0 m (pc + 1) ls rest)) : W p l e R s m args below meth c H locs cells slots Q (F0 m pc ls (.int x :: .int i :: .ref a :: rest)) := by
  subst hi
  exact wz_ast hexec hb hK hP hD hS q0 t0 ha ht hx1 hk hn hdg kk
end OWNE

set_option maxHeartbeats 4000000 in
set_option maxRecDepth 100000 in
theorem c_dadd (l : Launch) (dC : Nat → ClassId) (dI : Nat → Nat → Nat) (cI cZ cJ : ClassId) (a : Nat → Nat) (v : Nat → Int32) (g : Nat → Nat → Int32) (sz : Nat) (nd : Nat) (hnd : v 4 = nI nd) (hnd2 : nd < 6) (d mk : Int32) : Met l yX0_add wsX0_add ({ frames := 1, cells := 0, slots := 0, locals := 20 }) (va_Pc [.ref (a 2), .int d, .int mk] (fun U => U.heap.size = sz ∧ va_P (dC, dI) clA (wA cI cZ a v g) U.heap ∧ va_K (dC, dI) clA (tyA cI cZ cJ) U ∧ va_D (fun _ => True) (wA cI cZ a v g))) (va_Qi (fun (r : Int32) (u : StA) => r = v 4 + 1 ∧ u = (upd v 4 (v 4 + 1), upg (upg g 1 nd d) 2 nd mk)) (atA dC dI cI cZ cJ a (va_A (wA cI cZ a v g) sz)) (va_A (wA cI cZ a v g) sz))  0 0 (va_A (wA cI cZ a v g) sz) := by
  refine Met.ofW (cc := cX0_add) (maxL := 3) (ret := (some .int)) (by decide) rfl ?_
  intro p e s m args below meth c s₁ B hml hv
  obtain ⟨rfl, hsz, hP, hK, hD0⟩ := hv
  have hx := B.exec
  have hb := B.bytes
  have hr := B.returns
  have hts := atoms_spec (ws := wsX0_add) B.pre
  have hown : s.vm.findClass RX0 = some m.cls := findClass_of_methodNamed B.named
  have hlocks := B.notSynchronized
  subst hsz
  have hD := hD0.self (sz := s.heap.size)
  generalize hAe : va_A (wA cI cZ a v g) s.heap.size = A at hD ⊢
  have hA : ∀ q : Nat, s.heap.size ≤ q → A q := fun q h => by rw [← hAe]; exact Or.inr h
  have hS : va_S A s.heap s.heap [] := va_S.rf
  have hP : va_P (dC, dI) clA (wA cI cZ a v g) s.heap := hP
  have hl := lv_entry ([.ref (a 2), .int d, .int mk]) (n := 3) (Nat.le_of_ble_eq_true rfl)
  rw [lg_entry_eq]
  generalize (lg_sl ([.ref (a 2), .int d, .int mk]) ++ List.replicate (3 - (lg_sl ([.ref (a 2), .int d, .int mk])).length) Slot.unset).toArray = ls at hl ⊢
  have hl : lv_has ls 3 [(0, .ref (a 2)), (1, .int d), (2, .int mk)] := hl
  refine lv_aload_n hx hb dX0_add_0 rfl (lv_at hl 0 rfl) ?_
  refine vp_callSi (W.runV (As := []) (rest := []) ⟨hx, hb, hml, hown, hts⟩ (c_dfull l dC dI cI cZ cJ a v g ) (cwV 0 hts (gd_V ml_X0_X0_isFull im_X0_isFull se_X0_isFull in_X0 kX0_isFull) rfl rfl rfl (by decide +kernel) ⟨Nat.le_of_ble_eq_true rfl, Nat.le_of_ble_eq_true rfl⟩) ⟨fun _ U g mk q => by obtain ⟨q0, qP, qK⟩ := q; exact ⟨q0, qP, va_K.moved (u := U) (U := U.calling g mk _) (Vm.Alike.refl U.vm) qK⟩, va_recv hK hP (ci := 0) (q0 := 2) rfl rfl, fun U hU hW => ⟨rfl, by rw [hU]; exact hP, va_K.moved hW.alike hK⟩⟩ rfl rfl hl.1 rfl (lv_room (Nat.le_of_ble_eq_true rfl)) dX0_add_1 ⟨Nat.le_of_ble_eq_true rfl, Nat.le_of_ble_eq_true rfl⟩) (fun r1 hr1 => ?_)
  subst hr1
  refine lv_if_ne (tgt := 37) hx hb dX0_add_4 (by decide) (fun c4 => ?_) (fun c4 => ?_)
  · exact absurd c4 (fun h => h (bI_0.mpr (decide_eq_false (by rw [hnd]; exact nI_ge (b := 6) (by omega) (by decide)))))
  · refine lv_aload_n hx hb dX0_add_7 rfl (lv_at hl 0 rfl) ?_
    refine va_get (D := (dC, dI)) (ci := 0) (v := .ref (a 3)) (C := RX0) (T := TX0) (N := 3) hx hb hts (fun w h => List.mem_cons_of_mem _ (iw_X0 w h)) hown hK hP 2 rfl rfl 0 (by decide) (hts _ (List.mem_cons_of_mem _ fl_X0_days)) (fun _ h9 => h9) rfl dX0_add_8 ?_
    refine lv_aload_n hx hb dX0_add_11 rfl (lv_at hl 0 rfl) ?_
    refine va_get (D := (dC, dI)) (ci := 0) (v := .int (v 4)) (C := RX0) (T := TX0) (N := 3) hx hb hts (fun w h => List.mem_cons_of_mem _ (iw_X0 w h)) hown hK hP 2 rfl rfl 2 (by decide) (hts _ (List.mem_cons_of_mem _ fl_X0_size)) (fun _ h9 => h9) rfl dX0_add_12 ?_
    refine lv_iload_n hx hb dX0_add_15 rfl (lv_at hl 1 rfl) ?_
    refine wi_astE hx hb hK hP hD hS 3 0 rfl rfl (k := nd) hnd (by omega) (by decide) dX0_add_16 (fun H locs hP hD hS => ?_)
    have hP : va_P (dC, dI) clA (wA cI cZ a v (upg g 1 nd d)) H := hP
    have hD : va_D A (wA cI cZ a v (upg g 1 nd d)) := hD
    refine lv_aload_n hx hb dX0_add_17 rfl (lv_at hl 0 rfl) ?_
    refine va_get (D := (dC, dI)) (ci := 0) (v := .ref (a 4)) (C := RX0) (T := TX0) (N := 3) hx hb hts (fun w h => List.mem_cons_of_mem _ (iw_X0 w h)) hown hK hP 2 rfl rfl 1 (by decide) (hts _ (List.mem_cons_of_mem _ fl_X0_limits)) (fun _ h9 => h9) rfl dX0_add_18 ?_
    refine lv_aload_n hx hb dX0_add_21 rfl (lv_at hl 0 rfl) ?_
    refine va_get (D := (dC, dI)) (ci := 0) (v := .int (v 4)) (C := RX0) (T := TX0) (N := 3) hx hb hts (fun w h => List.mem_cons_of_mem _ (iw_X0 w h)) hown hK hP 2 rfl rfl 2 (by decide) (hts _ (List.mem_cons_of_mem _ fl_X0_size)) (fun _ h9 => h9) rfl dX0_add_22 ?_
    refine lv_iload_n hx hb dX0_add_25 rfl (lv_at hl 2 rfl) ?_
    refine wi_astE hx hb hK hP hD hS 4 0 rfl rfl (k := nd) hnd (by omega) (by decide) dX0_add_26 (fun H locs hP hD hS => ?_)
    have hP : va_P (dC, dI) clA (wA cI cZ a v (upg (upg g 1 nd d) 2 nd mk)) H := hP
    have hD : va_D A (wA cI cZ a v (upg (upg g 1 nd d) 2 nd mk)) := hD
    refine lv_aload_n hx hb dX0_add_27 rfl (lv_at hl 0 rfl) ?_
    refine lv_dup hx hb dX0_add_28 rfl ?_
    refine va_get (D := (dC, dI)) (ci := 0) (v := .int (v 4)) (C := RX0) (T := TX0) (N := 3) hx hb hts (fun w h => List.mem_cons_of_mem _ (iw_X0 w h)) hown hK hP 2 rfl rfl 2 (by decide) (hts _ (List.mem_cons_of_mem _ fl_X0_size)) (fun _ h9 => h9) rfl dX0_add_29 ?_
    refine lv_iconst (v := 1) hx hb dX0_add_32 (by decide) ?_
    refine lv_iadd hx hb dX0_add_33 ?_
    refine va_put (D := (dC, dI)) (ci := 0) (v := .int ((v 4) + 1)) (ty := .int) (C := RX0) (T := TX0) (N := 3) hx hb hts (fun w h => List.mem_cons_of_mem _ (iw_X0 w h)) tyX0 tyX0_ok nmX0 hown hK hP hD hS 2 rfl rfl 2 (by decide) (hts _ (List.mem_cons_of_mem _ fl_X0_size)) (fun _ h9 => h9) rfl (by decide +kernel) rfl rfl (Nat.le_of_ble_eq_true rfl) dX0_add_34 (fun H locs hP hD hS => ?_)
    have hP : va_P (dC, dI) clA (wA cI cZ a (upd v 4 ((v 4) + 1)) (upg (upg g 1 nd d) 2 nd mk)) H := hP
    have hD : va_D A (wA cI cZ a (upd v 4 ((v 4) + 1)) (upg (upg g 1 nd d) 2 nd mk)) := hD
    refine lv_aload_n hx hb dX0_add_37 rfl (lv_at hl 0 rfl) ?_
    refine va_get (D := (dC, dI)) (ci := 0) (v := .int ((v 4) + 1)) (C := RX0) (T := TX0) (N := 3) hx hb hts (fun w h => List.mem_cons_of_mem _ (iw_X0 w h)) hown hK hP 2 rfl rfl 2 (by decide) (hts _ (List.mem_cons_of_mem _ fl_X0_size)) (fun _ h9 => h9) rfl dX0_add_38 ?_
    exact (W.iret (v := (v 4) + 1) hx hb hr (fun t9 ht hW => ⟨⟨_, ((upd v 4 ((v 4) + 1)), (upg (upg g 1 nd d) 2 nd mk)), rfl, ⟨rfl, rfl⟩, ⟨by rw [ht]; exact hP, va_K.moved hW.alike hK, hD⟩⟩, hS.F ht⟩) hS.2.2 dX0_add_41)
set_option maxHeartbeats 4000000 in
set_option maxRecDepth 100000 in
theorem c_iadd (l : Launch) (dC : Nat → ClassId) (dI : Nat → Nat → Nat) (cI cZ cJ : ClassId) (a : Nat → Nat) (v : Nat → Int32) (g : Nat → Nat → Int32) (sz : Nat) (n : Nat) (hn : v 5 = nI n) (hn2 : n < 200) (d h k ar s0 mk : Int32) : Met l yX1_add wsX1_add ({ frames := 1, cells := 0, slots := 0, locals := 20 }) (va_Pc [.ref (a 5), .int d, .int h, .int k, .int ar, .int s0, .int mk] (fun U => U.heap.size = sz ∧ va_P (dC, dI) clA (wA cI cZ a v g) U.heap ∧ va_K (dC, dI) clA (tyA cI cZ cJ) U ∧ va_D (fun _ => True) (wA cI cZ a v g))) (va_Qi (fun (r : Int32) (u : StA) => r = v 5 ∧ u = (upd v 5 (v 5 + 1), upg (upg (upg (upg (upg (upg (upg (upg g 3 n d) 4 n h) 5 n k) 6 n ar) 7 n s0) 8 n mk) 9 n (-1)) 10 n (-1))) (atA dC dI cI cZ cJ a (va_A (wA cI cZ a v g) sz)) (va_A (wA cI cZ a v g) sz))  0 0 (va_A (wA cI cZ a v g) sz) := by
  refine Met.ofW (cc := cX1_add) (maxL := 8) (ret := (some .int)) (by decide) rfl ?_
  intro p e s m args below meth c s₁ B hml hv
  obtain ⟨rfl, hsz, hP, hK, hD0⟩ := hv
  have hx := B.exec
  have hb := B.bytes
  have hr := B.returns
  have hts := atoms_spec (ws := wsX1_add) B.pre
  have hown : s.vm.findClass RX1 = some m.cls := findClass_of_methodNamed B.named
  have hlocks := B.notSynchronized
  subst hsz
  have hD := hD0.self (sz := s.heap.size)
  generalize hAe : va_A (wA cI cZ a v g) s.heap.size = A at hD ⊢
  have hA : ∀ q : Nat, s.heap.size ≤ q → A q := fun q h => by rw [← hAe]; exact Or.inr h
  have hS : va_S A s.heap s.heap [] := va_S.rf
  have hP : va_P (dC, dI) clA (wA cI cZ a v g) s.heap := hP
  have hl := lv_entry ([.ref (a 5), .int d, .int h, .int k, .int ar, .int s0, .int mk]) (n := 8) (Nat.le_of_ble_eq_true rfl)
  rw [lg_entry_eq]
  generalize (lg_sl ([.ref (a 5), .int d, .int h, .int k, .int ar, .int s0, .int mk]) ++ List.replicate (8 - (lg_sl ([.ref (a 5), .int d, .int h, .int k, .int ar, .int s0, .int mk])).length) Slot.unset).toArray = ls at hl ⊢
  have hl : lv_has ls 8 [(0, .ref (a 5)), (1, .int d), (2, .int h), (3, .int k), (4, .int ar), (5, .int s0), (6, .int mk)] := hl
  refine lv_aload_n hx hb dX1_add_0 rfl (lv_at hl 0 rfl) ?_
  refine vp_callSi (W.runV (As := []) (rest := []) ⟨hx, hb, hml, hown, hts⟩ (c_ifull l dC dI cI cZ cJ a v g ) (cwV 0 hts (gd_V ml_X1_X1_isFull im_X1_isFull se_X1_isFull in_X1 kX1_isFull) rfl rfl rfl (by decide +kernel) ⟨Nat.le_of_ble_eq_true rfl, Nat.le_of_ble_eq_true rfl⟩) ⟨fun _ U g mk q => by obtain ⟨q0, qP, qK⟩ := q; exact ⟨q0, qP, va_K.moved (u := U) (U := U.calling g mk _) (Vm.Alike.refl U.vm) qK⟩, va_recv hK hP (ci := 1) (q0 := 5) rfl rfl, fun U hU hW => ⟨rfl, by rw [hU]; exact hP, va_K.moved hW.alike hK⟩⟩ rfl rfl hl.1 rfl (lv_room (Nat.le_of_ble_eq_true rfl)) dX1_add_1 ⟨Nat.le_of_ble_eq_true rfl, Nat.le_of_ble_eq_true rfl⟩) (fun r1 hr1 => ?_)
  subst hr1
  refine lv_if_eq (tgt := 12) hx hb dX1_add_4 (by decide) (fun c4 => ?_) (fun c4 => ?_)
  · refine lv_aload_n hx hb dX1_add_12 rfl (lv_at hl 0 rfl) ?_
    refine va_get (D := (dC, dI)) (ci := 1) (v := .int (v 5)) (C := RX1) (T := TX1) (N := 10) hx hb hts (fun w h => List.mem_cons_of_mem _ (iw_X1 w h)) hown hK hP 5 rfl rfl 9 (by decide) (hts _ (List.mem_cons_of_mem _ fl_X1_size)) (fun _ h9 => h9) rfl dX1_add_13 ?_
    refine lv_istore (lv' := [(7, .int (v 5)), (0, .ref (a 5)), (1, .int d), (2, .int h), (3, .int k), (4, .int ar), (5, .int s0), (6, .int mk)]) hx hb dX1_add_16 hl (by decide) rfl (fun ls hl => ?_)
    refine lv_aload_n hx hb dX1_add_18 rfl (lv_at hl 1 rfl) ?_
    refine va_get (D := (dC, dI)) (ci := 1) (v := .ref (a 6)) (C := RX1) (T := TX1) (N := 10) hx hb hts (fun w h => List.mem_cons_of_mem _ (iw_X1 w h)) hown hK hP 5 rfl rfl 0 (by decide) (hts _ (List.mem_cons_of_mem _ fl_X1_days)) (fun _ h9 => h9) rfl dX1_add_19 ?_
    refine lv_iload hx hb dX1_add_22 (lv_at hl 0 rfl) ?_
    refine lv_iload_n hx hb dX1_add_24 rfl (lv_at hl 2 rfl) ?_
    refine wi_astE hx hb hK hP hD hS 6 0 rfl rfl (k := n) hn (by omega) (by decide) dX1_add_25 (fun H locs hP hD hS => ?_)
    have hP : va_P (dC, dI) clA (wA cI cZ a v (upg g 3 n d)) H := hP
    have hD : va_D A (wA cI cZ a v (upg g 3 n d)) := hD
    refine lv_aload_n hx hb dX1_add_26 rfl (lv_at hl 1 rfl) ?_
    refine va_get (D := (dC, dI)) (ci := 1) (v := .ref (a 7)) (C := RX1) (T := TX1) (N := 10) hx hb hts (fun w h => List.mem_cons_of_mem _ (iw_X1 w h)) hown hK hP 5 rfl rfl 1 (by decide) (hts _ (List.mem_cons_of_mem _ fl_X1_hours)) (fun _ h9 => h9) rfl dX1_add_27 ?_
    refine lv_iload hx hb dX1_add_30 (lv_at hl 0 rfl) ?_
    refine lv_iload_n hx hb dX1_add_32 rfl (lv_at hl 3 rfl) ?_
    refine wi_astE hx hb hK hP hD hS 7 0 rfl rfl (k := n) hn (by omega) (by decide) dX1_add_33 (fun H locs hP hD hS => ?_)
    have hP : va_P (dC, dI) clA (wA cI cZ a v (upg (upg g 3 n d) 4 n h)) H := hP
    have hD : va_D A (wA cI cZ a v (upg (upg g 3 n d) 4 n h)) := hD
    refine lv_aload_n hx hb dX1_add_34 rfl (lv_at hl 1 rfl) ?_
    refine va_get (D := (dC, dI)) (ci := 1) (v := .ref (a 8)) (C := RX1) (T := TX1) (N := 10) hx hb hts (fun w h => List.mem_cons_of_mem _ (iw_X1 w h)) hown hK hP 5 rfl rfl 2 (by decide) (hts _ (List.mem_cons_of_mem _ fl_X1_kinds)) (fun _ h9 => h9) rfl dX1_add_35 ?_
    refine lv_iload hx hb dX1_add_38 (lv_at hl 0 rfl) ?_
    refine lv_iload_n hx hb dX1_add_40 rfl (lv_at hl 4 rfl) ?_
    refine wi_astE hx hb hK hP hD hS 8 0 rfl rfl (k := n) hn (by omega) (by decide) dX1_add_41 (fun H locs hP hD hS => ?_)
    have hP : va_P (dC, dI) clA (wA cI cZ a v (upg (upg (upg g 3 n d) 4 n h) 5 n k)) H := hP
    have hD : va_D A (wA cI cZ a v (upg (upg (upg g 3 n d) 4 n h) 5 n k)) := hD
    refine lv_aload_n hx hb dX1_add_42 rfl (lv_at hl 1 rfl) ?_
    refine va_get (D := (dC, dI)) (ci := 1) (v := .ref (a 9)) (C := RX1) (T := TX1) (N := 10) hx hb hts (fun w h => List.mem_cons_of_mem _ (iw_X1 w h)) hown hK hP 5 rfl rfl 3 (by decide) (hts _ (List.mem_cons_of_mem _ fl_X1_areas)) (fun _ h9 => h9) rfl dX1_add_43 ?_
    refine lv_iload hx hb dX1_add_46 (lv_at hl 0 rfl) ?_
    refine lv_iload hx hb dX1_add_48 (lv_at hl 5 rfl) ?_
    refine wi_astE hx hb hK hP hD hS 9 0 rfl rfl (k := n) hn (by omega) (by decide) dX1_add_50 (fun H locs hP hD hS => ?_)
    have hP : va_P (dC, dI) clA (wA cI cZ a v (upg (upg (upg (upg g 3 n d) 4 n h) 5 n k) 6 n ar)) H := hP
    have hD : va_D A (wA cI cZ a v (upg (upg (upg (upg g 3 n d) 4 n h) 5 n k) 6 n ar)) := hD
    refine lv_aload_n hx hb dX1_add_51 rfl (lv_at hl 1 rfl) ?_
    refine va_get (D := (dC, dI)) (ci := 1) (v := .ref (a 10)) (C := RX1) (T := TX1) (N := 10) hx hb hts (fun w h => List.mem_cons_of_mem _ (iw_X1 w h)) hown hK hP 5 rfl rfl 4 (by decide) (hts _ (List.mem_cons_of_mem _ fl_X1_stations)) (fun _ h9 => h9) rfl dX1_add_52 ?_
    refine lv_iload hx hb dX1_add_55 (lv_at hl 0 rfl) ?_
    refine lv_iload hx hb dX1_add_57 (lv_at hl 6 rfl) ?_
    refine wi_astE hx hb hK hP hD hS 10 0 rfl rfl (k := n) hn (by omega) (by decide) dX1_add_59 (fun H locs hP hD hS => ?_)
    have hP : va_P (dC, dI) clA (wA cI cZ a v (upg (upg (upg (upg (upg g 3 n d) 4 n h) 5 n k) 6 n ar) 7 n s0)) H := hP
    have hD : va_D A (wA cI cZ a v (upg (upg (upg (upg (upg g 3 n d) 4 n h) 5 n k) 6 n ar) 7 n s0)) := hD
    refine lv_aload_n hx hb dX1_add_60 rfl (lv_at hl 1 rfl) ?_
    refine va_get (D := (dC, dI)) (ci := 1) (v := .ref (a 11)) (C := RX1) (T := TX1) (N := 10) hx hb hts (fun w h => List.mem_cons_of_mem _ (iw_X1 w h)) hown hK hP 5 rfl rfl 5 (by decide) (hts _ (List.mem_cons_of_mem _ fl_X1_marks)) (fun _ h9 => h9) rfl dX1_add_61 ?_
    refine lv_iload hx hb dX1_add_64 (lv_at hl 0 rfl) ?_
    refine lv_iload hx hb dX1_add_66 (lv_at hl 7 rfl) ?_
    refine wi_astE hx hb hK hP hD hS 11 0 rfl rfl (k := n) hn (by omega) (by decide) dX1_add_68 (fun H locs hP hD hS => ?_)
    have hP : va_P (dC, dI) clA (wA cI cZ a v (upg (upg (upg (upg (upg (upg g 3 n d) 4 n h) 5 n k) 6 n ar) 7 n s0) 8 n mk)) H := hP
    have hD : va_D A (wA cI cZ a v (upg (upg (upg (upg (upg (upg g 3 n d) 4 n h) 5 n k) 6 n ar) 7 n s0) 8 n mk)) := hD
    refine lv_aload_n hx hb dX1_add_69 rfl (lv_at hl 1 rfl) ?_
    refine va_get (D := (dC, dI)) (ci := 1) (v := .ref (a 12)) (C := RX1) (T := TX1) (N := 10) hx hb hts (fun w h => List.mem_cons_of_mem _ (iw_X1 w h)) hown hK hP 5 rfl rfl 6 (by decide) (hts _ (List.mem_cons_of_mem _ fl_X1_turnOuts)) (fun _ h9 => h9) rfl dX1_add_70 ?_
    refine lv_iload hx hb dX1_add_73 (lv_at hl 0 rfl) ?_
    refine lv_iconst (v := (-1)) hx hb dX1_add_75 (by decide) ?_
    refine wi_astE hx hb hK hP hD hS 12 0 rfl rfl (k := n) hn (by omega) (by decide) dX1_add_76 (fun H locs hP hD hS => ?_)
    have hP : va_P (dC, dI) clA (wA cI cZ a v (upg (upg (upg (upg (upg (upg (upg g 3 n d) 4 n h) 5 n k) 6 n ar) 7 n s0) 8 n mk) 9 n (-1))) H := hP
    have hD : va_D A (wA cI cZ a v (upg (upg (upg (upg (upg (upg (upg g 3 n d) 4 n h) 5 n k) 6 n ar) 7 n s0) 8 n mk) 9 n (-1))) := hD
    refine lv_aload_n hx hb dX1_add_77 rfl (lv_at hl 1 rfl) ?_
    refine va_get (D := (dC, dI)) (ci := 1) (v := .ref (a 13)) (C := RX1) (T := TX1) (N := 10) hx hb hts (fun w h => List.mem_cons_of_mem _ (iw_X1 w h)) hown hK hP 5 rfl rfl 7 (by decide) (hts _ (List.mem_cons_of_mem _ fl_X1_travels)) (fun _ h9 => h9) rfl dX1_add_78 ?_
    refine lv_iload hx hb dX1_add_81 (lv_at hl 0 rfl) ?_
    refine lv_iconst (v := (-1)) hx hb dX1_add_83 (by decide) ?_
    refine wi_astE hx hb hK hP hD hS 13 0 rfl rfl (k := n) hn (by omega) (by decide) dX1_add_84 (fun H locs hP hD hS => ?_)
    have hP : va_P (dC, dI) clA (wA cI cZ a v (upg (upg (upg (upg (upg (upg (upg (upg g 3 n d) 4 n h) 5 n k) 6 n ar) 7 n s0) 8 n mk) 9 n (-1)) 10 n (-1))) H := hP
    have hD : va_D A (wA cI cZ a v (upg (upg (upg (upg (upg (upg (upg (upg g 3 n d) 4 n h) 5 n k) 6 n ar) 7 n s0) 8 n mk) 9 n (-1)) 10 n (-1))) := hD
    refine lv_aload_n hx hb dX1_add_85 rfl (lv_at hl 1 rfl) ?_
    refine lv_dup hx hb dX1_add_86 rfl ?_
    refine va_get (D := (dC, dI)) (ci := 1) (v := .int (v 5)) (C := RX1) (T := TX1) (N := 10) hx hb hts (fun w h => List.mem_cons_of_mem _ (iw_X1 w h)) hown hK hP 5 rfl rfl 9 (by decide) (hts _ (List.mem_cons_of_mem _ fl_X1_size)) (fun _ h9 => h9) rfl dX1_add_87 ?_
    refine lv_iconst (v := 1) hx hb dX1_add_90 (by decide) ?_
    refine lv_iadd hx hb dX1_add_91 ?_
    refine va_put (D := (dC, dI)) (ci := 1) (v := .int ((v 5) + 1)) (ty := .int) (C := RX1) (T := TX1) (N := 10) hx hb hts (fun w h => List.mem_cons_of_mem _ (iw_X1 w h)) tyX1 tyX1_ok nmX1 hown hK hP hD hS 5 rfl rfl 9 (by decide) (hts _ (List.mem_cons_of_mem _ fl_X1_size)) (fun _ h9 => h9) rfl (by decide +kernel) rfl rfl (Nat.le_of_ble_eq_true rfl) dX1_add_92 (fun H locs hP hD hS => ?_)
    have hP : va_P (dC, dI) clA (wA cI cZ a (upd v 5 ((v 5) + 1)) (upg (upg (upg (upg (upg (upg (upg (upg g 3 n d) 4 n h) 5 n k) 6 n ar) 7 n s0) 8 n mk) 9 n (-1)) 10 n (-1))) H := hP
    have hD : va_D A (wA cI cZ a (upd v 5 ((v 5) + 1)) (upg (upg (upg (upg (upg (upg (upg (upg g 3 n d) 4 n h) 5 n k) 6 n ar) 7 n s0) 8 n mk) 9 n (-1)) 10 n (-1))) := hD
    refine lv_iload hx hb dX1_add_95 (lv_at hl 0 rfl) ?_
    exact (W.iret (v := v 5) hx hb hr (fun t9 ht hW => ⟨⟨_, ((upd v 5 ((v 5) + 1)), (upg (upg (upg (upg (upg (upg (upg (upg g 3 n d) 4 n h) 5 n k) 6 n ar) 7 n s0) 8 n mk) 9 n (-1)) 10 n (-1))), rfl, ⟨rfl, rfl⟩, ⟨by rw [ht]; exact hP, va_K.moved hW.alike hK, hD⟩⟩, hS.F ht⟩) hS.2.2 dX1_add_97)
  · exact absurd (bI_0.mpr (decide_eq_false (by rw [hn]; exact nI_ge (b := 200) (by omega) (by decide)))) c4
set_option maxHeartbeats 4000000 in
set_option maxRecDepth 100000 in
theorem c_setSec (l : Launch) (dC : Nat → ClassId) (dI : Nat → Nat → Nat) (cI cZ cJ : ClassId) (a : Nat → Nat) (v : Nat → Int32) (g : Nat → Nat → Int32) (sz : Nat) (n : Nat) (hn : v 5 = nI n) (hn2 : n ≤ 200) (k : Nat) (hk : k < n) (x y : Int32) : Met l yX1_setSeconds wsX1_setSeconds ({ frames := 0, cells := 0, slots := 0, locals := 0 }) (va_Pc [.ref (a 5), .int (nI k), .int x, .int y] (fun U => U.heap.size = sz ∧ va_P (dC, dI) clA (wA cI cZ a v g) U.heap ∧ va_K (dC, dI) clA (tyA cI cZ cJ) U ∧ va_D (fun _ => True) (wA cI cZ a v g))) (va_Qv (fun (u : StA) => u = (v, upg (upg g 9 k x) 10 k y)) (atA dC dI cI cZ cJ a (va_A (wA cI cZ a v g) sz)) (va_A (wA cI cZ a v g) sz))  0 0 (va_A (wA cI cZ a v g) sz) := by
  refine Met.ofW (cc := cX1_setSeconds) (maxL := 4) (ret := none) (by decide) rfl ?_
  intro p e s m args below meth c s₁ B hml hv
  obtain ⟨rfl, hsz, hP, hK, hD0⟩ := hv
  have hx := B.exec
  have hb := B.bytes
  have hr := B.returns
  have hts := atoms_spec (ws := wsX1_setSeconds) B.pre
  have hown : s.vm.findClass RX1 = some m.cls := findClass_of_methodNamed B.named
  have hlocks := B.notSynchronized
  subst hsz
  have hD := hD0.self (sz := s.heap.size)
  generalize hAe : va_A (wA cI cZ a v g) s.heap.size = A at hD ⊢
  have hA : ∀ q : Nat, s.heap.size ≤ q → A q := fun q h => by rw [← hAe]; exact Or.inr h
  have hS : va_S A s.heap s.heap [] := va_S.rf
  have hP : va_P (dC, dI) clA (wA cI cZ a v g) s.heap := hP
  have hl := lv_entry ([.ref (a 5), .int (nI k), .int x, .int y]) (n := 4) (Nat.le_of_ble_eq_true rfl)
  rw [lg_entry_eq]
  generalize (lg_sl ([.ref (a 5), .int (nI k), .int x, .int y]) ++ List.replicate (4 - (lg_sl ([.ref (a 5), .int (nI k), .int x, .int y])).length) Slot.unset).toArray = ls at hl ⊢
  have hl : lv_has ls 4 [(0, .ref (a 5)), (1, .int (nI k)), (2, .int x), (3, .int y)] := hl
  refine lv_iload_n hx hb dX1_setSeconds_0 rfl (lv_at hl 1 rfl) ?_
  refine lv_if_lt (tgt := 26) hx hb dX1_setSeconds_1 (by decide) (fun c1 => ?_) (fun c1 => ?_)
  · exact absurd c1 (nI_pos (by omega))
  · refine lv_iload_n hx hb dX1_setSeconds_4 rfl (lv_at hl 1 rfl) ?_
    refine lv_aload_n hx hb dX1_setSeconds_5 rfl (lv_at hl 0 rfl) ?_
    refine va_get (D := (dC, dI)) (ci := 1) (v := .int (v 5)) (C := RX1) (T := TX1) (N := 10) hx hb hts (fun w h => List.mem_cons_of_mem _ (iw_X1 w h)) hown hK hP 5 rfl rfl 9 (by decide) (hts _ (List.mem_cons_of_mem _ fl_X1_size)) (fun _ h9 => h9) rfl dX1_setSeconds_6 ?_
    refine lv_icmp_ge (tgt := 26) hx hb dX1_setSeconds_9 (by decide) (fun c9 => ?_) (fun c9 => ?_)
    · exact absurd c9 (by rw [hn]; exact nI_ge hk (by omega))
    · refine lv_aload_n hx hb dX1_setSeconds_12 rfl (lv_at hl 0 rfl) ?_
      refine va_get (D := (dC, dI)) (ci := 1) (v := .ref (a 12)) (C := RX1) (T := TX1) (N := 10) hx hb hts (fun w h => List.mem_cons_of_mem _ (iw_X1 w h)) hown hK hP 5 rfl rfl 6 (by decide) (hts _ (List.mem_cons_of_mem _ fl_X1_turnOuts)) (fun _ h9 => h9) rfl dX1_setSeconds_13 ?_
      refine lv_iload_n hx hb dX1_setSeconds_16 rfl (lv_at hl 1 rfl) ?_
      refine lv_iload_n hx hb dX1_setSeconds_17 rfl (lv_at hl 2 rfl) ?_
      refine wi_ast hx hb hK hP hD hS 12 0 rfl rfl (k := k) (by omega) (by decide) dX1_setSeconds_18 (fun H locs hP hD hS => ?_)
      have hP : va_P (dC, dI) clA (wA cI cZ a v (upg g 9 k x)) H := hP
      have hD : va_D A (wA cI cZ a v (upg g 9 k x)) := hD
      refine lv_aload_n hx hb dX1_setSeconds_19 rfl (lv_at hl 0 rfl) ?_
      refine va_get (D := (dC, dI)) (ci := 1) (v := .ref (a 13)) (C := RX1) (T := TX1) (N := 10) hx hb hts (fun w h => List.mem_cons_of_mem _ (iw_X1 w h)) hown hK hP 5 rfl rfl 7 (by decide) (hts _ (List.mem_cons_of_mem _ fl_X1_travels)) (fun _ h9 => h9) rfl dX1_setSeconds_20 ?_
      refine lv_iload_n hx hb dX1_setSeconds_23 rfl (lv_at hl 1 rfl) ?_
      refine lv_iload_n hx hb dX1_setSeconds_24 rfl (lv_at hl 3 rfl) ?_
      refine wi_ast hx hb hK hP hD hS 13 0 rfl rfl (k := k) (by omega) (by decide) dX1_setSeconds_25 (fun H locs hP hD hS => ?_)
      have hP : va_P (dC, dI) clA (wA cI cZ a v (upg (upg g 9 k x) 10 k y)) H := hP
      have hD : va_D A (wA cI cZ a v (upg (upg g 9 k x) 10 k y)) := hD
      exact (W.vret hx hb hr (fun t9 ht hW => ⟨⟨(v, (upg (upg g 9 k x) 10 k y)), rfl, rfl, ⟨by rw [ht]; exact hP, va_K.moved hW.alike hK, hD⟩⟩, hS.F ht⟩) hS.2.2 dX1_setSeconds_26)
set_option maxHeartbeats 4000000 in
set_option maxRecDepth 100000 in
theorem c_setCount (l : Launch) (dC : Nat → ClassId) (dI : Nat → Nat → Nat) (cI cZ cJ : ClassId) (a : Nat → Nat) (v : Nat → Int32) (g : Nat → Nat → Int32) (sz : Nat) (np : Nat) (hnp : v 6 = nI np) (hnp2 : np ≤ 6) (k : Nat) (hk : k < np) (x : Int32) : Met l yX3_setCount wsX3_setCount ({ frames := 0, cells := 0, slots := 0, locals := 0 }) (va_Pc [.ref (a 15), .int (nI k), .int x] (fun U => U.heap.size = sz ∧ va_P (dC, dI) clA (wA cI cZ a v g) U.heap ∧ va_K (dC, dI) clA (tyA cI cZ cJ) U ∧ va_D (fun _ => True) (wA cI cZ a v g))) (va_Qv (fun (u : StA) => u = (v, upg g 12 k x)) (atA dC dI cI cZ cJ a (va_A (wA cI cZ a v g) sz)) (va_A (wA cI cZ a v g) sz))  0 0 (va_A (wA cI cZ a v g) sz) := by
  refine Met.ofW (cc := cX3_setCount) (maxL := 3) (ret := none) (by decide) rfl ?_
  intro p e s m args below meth c s₁ B hml hv
  obtain ⟨rfl, hsz, hP, hK, hD0⟩ := hv
  have hx := B.exec
  have hb := B.bytes
  have hr := B.returns
  have hts := atoms_spec (ws := wsX3_setCount) B.pre
  have hown : s.vm.findClass RX3 = some m.cls := findClass_of_methodNamed B.named
  have hlocks := B.notSynchronized
  subst hsz
  have hD := hD0.self (sz := s.heap.size)
  generalize hAe : va_A (wA cI cZ a v g) s.heap.size = A at hD ⊢
  have hA : ∀ q : Nat, s.heap.size ≤ q → A q := fun q h => by rw [← hAe]; exact Or.inr h
  have hS : va_S A s.heap s.heap [] := va_S.rf
  have hP : va_P (dC, dI) clA (wA cI cZ a v g) s.heap := hP
  have hl := lv_entry ([.ref (a 15), .int (nI k), .int x]) (n := 3) (Nat.le_of_ble_eq_true rfl)
  rw [lg_entry_eq]
  generalize (lg_sl ([.ref (a 15), .int (nI k), .int x]) ++ List.replicate (3 - (lg_sl ([.ref (a 15), .int (nI k), .int x])).length) Slot.unset).toArray = ls at hl ⊢
  have hl : lv_has ls 3 [(0, .ref (a 15)), (1, .int (nI k)), (2, .int x)] := hl
  refine lv_iload_n hx hb dX3_setCount_0 rfl (lv_at hl 1 rfl) ?_
  refine lv_if_lt (tgt := 19) hx hb dX3_setCount_1 (by decide) (fun c1 => ?_) (fun c1 => ?_)
  · exact absurd c1 (nI_pos (by omega))
  · refine lv_iload_n hx hb dX3_setCount_4 rfl (lv_at hl 1 rfl) ?_
    refine lv_aload_n hx hb dX3_setCount_5 rfl (lv_at hl 0 rfl) ?_
    refine va_get (D := (dC, dI)) (ci := 3) (v := .int (v 6)) (C := RX3) (T := TX3) (N := 2) hx hb hts (fun w h => List.mem_cons_of_mem _ (iw_X3 w h)) hown hK hP 15 rfl rfl 1 (by decide) (hts _ (List.mem_cons_of_mem _ fl_X3_periods)) (fun _ h9 => h9) rfl dX3_setCount_6 ?_
    refine lv_icmp_ge (tgt := 19) hx hb dX3_setCount_9 (by decide) (fun c9 => ?_) (fun c9 => ?_)
    · exact absurd c9 (by rw [hnp]; exact nI_ge hk (by omega))
    · refine lv_aload_n hx hb dX3_setCount_12 rfl (lv_at hl 0 rfl) ?_
      refine va_get (D := (dC, dI)) (ci := 3) (v := .ref (a 16)) (C := RX3) (T := TX3) (N := 2) hx hb hts (fun w h => List.mem_cons_of_mem _ (iw_X3 w h)) hown hK hP 15 rfl rfl 0 (by decide) (hts _ (List.mem_cons_of_mem _ fl_X3_counts)) (fun _ h9 => h9) rfl dX3_setCount_13 ?_
      refine lv_iload_n hx hb dX3_setCount_16 rfl (lv_at hl 1 rfl) ?_
      refine lv_iload_n hx hb dX3_setCount_17 rfl (lv_at hl 2 rfl) ?_
      refine wi_ast hx hb hK hP hD hS 16 0 rfl rfl (k := k) (by omega) (by decide) dX3_setCount_18 (fun H locs hP hD hS => ?_)
      have hP : va_P (dC, dI) clA (wA cI cZ a v (upg g 12 k x)) H := hP
      have hD : va_D A (wA cI cZ a v (upg g 12 k x)) := hD
      exact (W.vret hx hb hr (fun t9 ht hW => ⟨⟨(v, (upg g 12 k x)), rfl, rfl, ⟨by rw [ht]; exact hP, va_K.moved hW.alike hK, hD⟩⟩, hS.F ht⟩) hS.2.2 dX3_setCount_19)
set_option maxHeartbeats 4000000 in
set_option maxRecDepth 100000 in
theorem c_setLeast (l : Launch) (dC : Nat → ClassId) (dI : Nat → Nat → Nat) (cI cZ cJ : ClassId) (a : Nat → Nat) (v : Nat → Int32) (g : Nat → Nat → Int32) (sz : Nat) (x : Int32) : Met l yX2_setLeast wsX2_setLeast ({ frames := 0, cells := 0, slots := 0, locals := 0 }) (va_Pc [.ref (a 17), .int x] (fun U => U.heap.size = sz ∧ va_P (dC, dI) clA (wA cI cZ a v g) U.heap ∧ va_K (dC, dI) clA (tyA cI cZ cJ) U ∧ va_D (fun _ => True) (wA cI cZ a v g))) (va_Qv (fun (u : StA) => u = (upd v 7 x, g)) (atA dC dI cI cZ cJ a (va_A (wA cI cZ a v g) sz)) (va_A (wA cI cZ a v g) sz))  0 0 (va_A (wA cI cZ a v g) sz) := by
  refine Met.ofW (cc := cX2_setLeast) (maxL := 2) (ret := none) (by decide) rfl ?_
  intro p e s m args below meth c s₁ B hml hv
  obtain ⟨rfl, hsz, hP, hK, hD0⟩ := hv
  have hx := B.exec
  have hb := B.bytes
  have hr := B.returns
  have hts := atoms_spec (ws := wsX2_setLeast) B.pre
  have hown : s.vm.findClass RX2 = some m.cls := findClass_of_methodNamed B.named
  have hlocks := B.notSynchronized
  subst hsz
  have hD := hD0.self (sz := s.heap.size)
  generalize hAe : va_A (wA cI cZ a v g) s.heap.size = A at hD ⊢
  have hA : ∀ q : Nat, s.heap.size ≤ q → A q := fun q h => by rw [← hAe]; exact Or.inr h
  have hS : va_S A s.heap s.heap [] := va_S.rf
  have hP : va_P (dC, dI) clA (wA cI cZ a v g) s.heap := hP
  have hl := lv_entry ([.ref (a 17), .int x]) (n := 2) (Nat.le_of_ble_eq_true rfl)
  rw [lg_entry_eq]
  generalize (lg_sl ([.ref (a 17), .int x]) ++ List.replicate (2 - (lg_sl ([.ref (a 17), .int x])).length) Slot.unset).toArray = ls at hl ⊢
  have hl : lv_has ls 2 [(0, .ref (a 17)), (1, .int x)] := hl
  refine lv_aload_n hx hb dX2_setLeast_0 rfl (lv_at hl 0 rfl) ?_
  refine lv_iload_n hx hb dX2_setLeast_1 rfl (lv_at hl 1 rfl) ?_
  refine va_put (D := (dC, dI)) (ci := 2) (v := .int x) (ty := .int) (C := RX2) (T := TX2) (N := 4) hx hb hts (fun w h => List.mem_cons_of_mem _ (iw_X2 w h)) tyX2 tyX2_ok nmX2 hown hK hP hD hS 17 rfl rfl 2 (by decide) (hts _ (List.mem_cons_of_mem _ fl_X2_lowestShown)) (fun _ h9 => h9) rfl (by decide +kernel) rfl rfl (Nat.le_of_ble_eq_true rfl) dX2_setLeast_2 (fun H locs hP hD hS => ?_)
  have hP : va_P (dC, dI) clA (wA cI cZ a (upd v 7 x) g) H := hP
  have hD : va_D A (wA cI cZ a (upd v 7 x) g) := hD
  exact (W.vret hx hb hr (fun t9 ht hW => ⟨⟨((upd v 7 x), g), rfl, rfl, ⟨by rw [ht]; exact hP, va_K.moved hW.alike hK, hD⟩⟩, hS.F ht⟩) hS.2.2 dX2_setLeast_5)
set_option maxHeartbeats 4000000 in
set_option maxRecDepth 100000 in
theorem c_start (l : Launch) (dC : Nat → ClassId) (dI : Nat → Nat → Nat) (cI cZ cJ : ClassId) (a : Nat → Nat) (v : Nat → Int32) (g : Nat → Nat → Int32) (sz : Nat) (pr : Int32) (np : Nat) (hpr : pr = nI np) (hnp2 : np ≤ 6) : Met l yX3_start wsX3_start ({ frames := 1, cells := 0, slots := 0, locals := 40 }) (va_Pc [.ref (a 15), .int pr] (fun U => U.heap.size = sz ∧ va_P (dC, dI) clA (wA cI cZ a v g) U.heap ∧ va_K (dC, dI) clA (tyA cI cZ cJ) U ∧ va_D (fun _ => True) (wA cI cZ a v g))) (va_Qv (fun (u : StA) => u = (upd v 6 pr, g)) (atA dC dI cI cZ cJ a (va_A (wA cI cZ a v g) sz)) (va_A (wA cI cZ a v g) sz))  0 0 (va_A (wA cI cZ a v g) sz) := by
  refine Met.ofW (cc := cX3_start) (maxL := 2) (ret := none) (by decide) rfl ?_
  intro p e s m args below meth c s₁ B hml hv
  obtain ⟨rfl, hsz, hP, hK, hD0⟩ := hv
  have hx := B.exec
  have hb := B.bytes
  have hr := B.returns
  have hts := atoms_spec (ws := wsX3_start) B.pre
  have hown : s.vm.findClass RX3 = some m.cls := findClass_of_methodNamed B.named
  have hlocks := B.notSynchronized
  subst hsz
  have hD := hD0.self (sz := s.heap.size)
  generalize hAe : va_A (wA cI cZ a v g) s.heap.size = A at hD ⊢
  have hA : ∀ q : Nat, s.heap.size ≤ q → A q := fun q h => by rw [← hAe]; exact Or.inr h
  have hS : va_S A s.heap s.heap [] := va_S.rf
  have hP : va_P (dC, dI) clA (wA cI cZ a v g) s.heap := hP
  have hl := lv_entry ([.ref (a 15), .int pr]) (n := 2) (Nat.le_of_ble_eq_true rfl)
  rw [lg_entry_eq]
  generalize (lg_sl ([.ref (a 15), .int pr]) ++ List.replicate (2 - (lg_sl ([.ref (a 15), .int pr])).length) Slot.unset).toArray = ls at hl ⊢
  have hl : lv_has ls 2 [(0, .ref (a 15)), (1, .int pr)] := hl
  refine lv_aload_n hx hb dX3_start_0 rfl (lv_at hl 0 rfl) ?_
  refine lv_iload_n hx hb dX3_start_1 rfl (lv_at hl 1 rfl) ?_
  refine lv_bipush (v := 6) hx hb dX3_start_2 (by decide) ?_
  refine va_mmin hx hb (by rw [hml]; exact hl.1.symm) hown (hts _ (List.mem_cons_of_mem _ ml_X3_Math_min)) (hts _ (List.mem_cons_of_mem _ sm_Math_min)) (hts _ (List.mem_cons_of_mem _ in_Math)) (hts _ (List.mem_cons_of_mem _ kMath_min)) (Nat.le_of_ble_eq_true rfl) (Nat.le_of_ble_eq_true rfl) (Nat.le_of_ble_eq_true rfl) (Nat.le_of_ble_eq_true rfl) dX3_start_4 ?_
  rw [if_neg (show ¬ (6 : Int32) < pr by rw [hpr]; exact nI_nlt (a := 6) (b := np) hnp2 (by decide))]
  refine va_put (D := (dC, dI)) (ci := 3) (v := .int pr) (ty := .int) (C := RX3) (T := TX3) (N := 2) hx hb hts (fun w h => List.mem_cons_of_mem _ (iw_X3 w h)) tyX3 tyX3_ok nmX3 hown hK hP hD hS 15 rfl rfl 1 (by decide) (hts _ (List.mem_cons_of_mem _ fl_X3_periods)) (fun _ h9 => h9) rfl (by decide +kernel) rfl rfl (Nat.le_of_ble_eq_true rfl) dX3_start_7 (fun H locs hP hD hS => ?_)
  have hP : va_P (dC, dI) clA (wA cI cZ a (upd v 6 pr) g) H := hP
  have hD : va_D A (wA cI cZ a (upd v 6 pr) g) := hD
  exact (W.vret hx hb hr (fun t9 ht hW => ⟨⟨((upd v 6 pr), g), rfl, rfl, ⟨by rw [ht]; exact hP, va_K.moved hW.alike hK, hD⟩⟩, hS.F ht⟩) hS.2.2 dX3_start_10)
end
section

theorem upg_at (g : Nat → Nat → Int32) (j k : Nat) (x : Int32) : upg g j k x j k = x := by simp [upg, upd]
/-- a sum put at its place among the first m sorted ones -/
def insG (x : Int32) : Nat → (Nat → Nat → Int32) → (Nat → Nat → Int32)
  | 0, g => upg g 11 0 x
  | q + 1, g => if x < g 11 q then insG x q (upg g 11 (q + 1) (g 11 q)) else upg g 11 (q + 1) x
/-- areas joined, as long as there are too few rows together -/
noncomputable def jmS : Nat → StA → StA
  | 0, u => u
  | d + 1, u => if u.1 8 < u.1 7 then (if fewest u.2 < 0 then u else jmS d (upd u.1 8 (u.1 8 + u.2 13 (fewest u.2).toNatClampNeg), upg u.2 14 (fewest u.2).toNatClampNeg 1)) else u
theorem fewest_at (g : Nat → Nat → Int32) (h : ¬ fewest g < 0) : fewest g = nI (fewest g).toNatClampNeg ∧ (fewest g).toNatClampNeg < 10 := by
  have e : fewest g = fewI g 10 := by rw [fewest, n10_eq]
  rw [e] at h ⊢
  rcases fewI_in g 10 (Nat.le_refl _) with h1 | ⟨j, h1, h2⟩
  · exact absurd h1 h
  · rw [h2, nI_clamp (by omega)]; exact ⟨rfl, h1⟩
/-- the first k areas counted -/
def jlS (v : Nat → Int32) (g : Nat → Nat → Int32) (f t : Int32) (n : Nat) : Nat → StA
  | 0 => (upd v 8 0, g)
  | k + 1 => if 1 ≤ cnt (fun i => askB (jlS v g f t n k).2 i f t (-1) (nI k)) n ∧ cnt (fun i => askB (jlS v g f t n k).2 i f t (-1) (nI k)) n < (jlS v g f t n k).1 7 then (upd (jlS v g f t n k).1 8 ((jlS v g f t n k).1 8 + cnt (fun i => askB (jlS v g f t n k).2 i f t (-1) (nI k)) n), upg (upg (jlS v g f t n k).2 13 k (cnt (fun i => askB (jlS v g f t n k).2 i f t (-1) (nI k)) n)) 14 k 1)
      else (upd (jlS v g f t n k).1 8 ((jlS v g f t n k).1 8 + 0), upg (upg (jlS v g f t n k).2 13 k (cnt (fun i => askB (jlS v g f t n k).2 i f t (-1) (nI k)) n)) 14 k 0)
theorem jlS_5 (v : Nat → Int32) (g : Nat → Nat → Int32) (f t : Int32) (n : Nat) : ∀ k, (jlS v g f t n k).1 5 = v 5 := by
  intro k
  induction k with
  | zero => rfl
  | succ k ih => rw [jlS]; split <;> (rw [← ih]; rfl)
noncomputable def joinS (v : Nat → Int32) (g : Nat → Nat → Int32) (f t : Int32) (n : Nat) : StA :=
  if 0 < (jlS v g f t n n10).1 8 then jmS n10 (upd (jlS v g f t n n10).1 8 ((jlS v g f t n n10).1 8 + cnt (fun i => hidB (jlS v g f t n n10).2 i && spanB (jlS v g f t n n10).2 i f t) n), (jlS v g f t n n10).2) else jlS v g f t n n10
/-- the sums of the first k rows, sorted: how many, and where -/
def spS (g : Nat → Nat → Int32) (f t kd ar : Int32) : Nat → Nat × (Nat → Nat → Int32)
  | 0 => (0, g)
  | k + 1 => if askB (spS g f t kd ar k).2 k f t kd ar = true ∧ bothB (spS g f t kd ar k).2 k = true then ((spS g f t kd ar k).1 + 1, insG ((spS g f t kd ar k).2 9 k + (spS g f t kd ar k).2 10 k) (spS g f t kd ar k).1 (spS g f t kd ar k).2) else spS g f t kd ar k
theorem spS_le (g : Nat → Nat → Int32) (f t kd ar : Int32) : ∀ k, (spS g f t kd ar k).1 ≤ k := by
  intro k
  induction k with
  | zero => exact Nat.le_refl _
  | succ k ih => rw [spS]; split
                 · exact Nat.succ_le_succ ih
                 · exact Nat.le_succ_of_le ih
def plI (g : Nat → Nat → Int32) (p : Int32) (m : Nat) : Int32 := if 1 ≤ (p * nI m + 100 - 1) / 100 ∧ (p * nI m + 100 - 1) / 100 ≤ nI m then g 11 ((p * nI m + 100 - 1) / 100 - 1).toNatClampNeg else -1
theorem idx_ok {x : Int32} {m : Nat} (h1 : 1 ≤ x) (h2 : x ≤ nI m) (hm : m ≤ 200) : x - 1 = nI (x - 1).toNatClampNeg ∧ (x - 1).toNatClampNeg < 200 := by
  have h0 : ¬ x < 0 := fun h => by
    have := Int32.lt_iff_toInt_lt.mp h
    have := Int32.le_iff_toInt_le.mp h1
    simp at *
    omega
  obtain ⟨j, hj, rfl⟩ := nI_of h0
  have e1 : 1 ≤ j := (nI_leI (a := 1) (by decide) hj).mp h1
  have e2 : j ≤ m := (nI_leI hj (by omega)).mp h2
  have e : nI j - 1 = nI (j - 1) := by
    obtain ⟨q, rfl⟩ : ∃ q, j = q + 1 := ⟨j - 1, by omega⟩
    exact nI_pred q
  rw [e, nI_clamp (by omega)]
  exact ⟨rfl, by omega⟩

set_option maxHeartbeats 4000000 in
set_option maxRecDepth 100000 in
theorem c_sortIn (l : Launch) (dC : Nat → ClassId) (dI : Nat → Nat → Nat) (cI cZ cJ : ClassId) (a : Nat → Nat) (v : Nat → Int32) (g : Nat → Nat → Int32) (sz : Nat) (x : Int32) (m0 : Nat) (hm : m0 < 200) : Met l yX1_sortIn wsX1_sortIn ({ frames := 0, cells := 0, slots := 0, locals := 0 }) (va_Pc [.ref (a 5), .int x, .int (nI m0)] (fun U => U.heap.size = sz ∧ va_P (dC, dI) clA (wA cI cZ a v g) U.heap ∧ va_K (dC, dI) clA (tyA cI cZ cJ) U ∧ va_D (fun _ => True) (wA cI cZ a v g))) (va_Qv (fun (u : StA) => u = (v, insG x m0 g)) (atA dC dI cI cZ cJ a (va_A (wA cI cZ a v g) sz)) (va_A (wA cI cZ a v g) sz))  0 0 (va_A (wA cI cZ a v g) sz) := by
  refine Met.ofW (cc := cX1_sortIn) (maxL := 4) (ret := none) (by decide) rfl ?_
  intro p e s m args below meth c s₁ B hml hv
  obtain ⟨rfl, hsz, hP, hK, hD0⟩ := hv
  have hx := B.exec
  have hb := B.bytes
  have hr := B.returns
  have hts := atoms_spec (ws := wsX1_sortIn) B.pre
  have hown : s.vm.findClass RX1 = some m.cls := findClass_of_methodNamed B.named
  have hlocks := B.notSynchronized
  subst hsz
  have hD := hD0.self (sz := s.heap.size)
  generalize hAe : va_A (wA cI cZ a v g) s.heap.size = A at hD ⊢
  have hA : ∀ q : Nat, s.heap.size ≤ q → A q := fun q h => by rw [← hAe]; exact Or.inr h
  have hS : va_S A s.heap s.heap [] := va_S.rf
  have hP : va_P (dC, dI) clA (wA cI cZ a v g) s.heap := hP
  have hl := lv_entry ([.ref (a 5), .int x, .int (nI m0)]) (n := 4) (Nat.le_of_ble_eq_true rfl)
  rw [lg_entry_eq]
  generalize (lg_sl ([.ref (a 5), .int x, .int (nI m0)]) ++ List.replicate (4 - (lg_sl ([.ref (a 5), .int x, .int (nI m0)])).length) Slot.unset).toArray = ls at hl ⊢
  have hl : lv_has ls 4 [(0, .ref (a 5)), (1, .int x), (2, .int (nI m0))] := hl
  refine lv_iload_n hx hb dX1_sortIn_0 rfl (lv_at hl 2 rfl) ?_
  refine lv_if_lt (tgt := 11) hx hb dX1_sortIn_1 (by decide) (fun c1 => ?_) (fun c1 => ?_)
  · exact absurd c1 (nI_pos (by omega))
  · refine lv_iload_n hx hb dX1_sortIn_4 rfl (lv_at hl 2 rfl) ?_
    refine lv_sipush (v := 200) hx hb dX1_sortIn_5 (by decide) ?_
    refine lv_icmp_lt (tgt := 12) hx hb dX1_sortIn_8 (by decide) (fun c8 => ?_) (fun c8 => ?_)
    · refine lv_iload_n hx hb dX1_sortIn_12 rfl (lv_at hl 2 rfl) ?_
      refine lv_istore_n (lv' := [(3, .int (nI m0)), (0, .ref (a 5)), (1, .int x), (2, .int (nI m0))]) hx hb dX1_sortIn_13 rfl hl (by decide) rfl (fun ls hl => ?_)
      have lp : ∀ (q : Nat) (G : Nat → Nat → Int32), q < 200 → insG x q G = insG x m0 g → ∀ (H : Heap) (locs : List Loc), va_P (dC, dI) clA (wA cI cZ a v G) H → va_D A (wA cI cZ a v G) → va_S A s.heap H locs → ∀ (ls : Array Slot), lv_has ls 4 [(3, .int (nI q)), (0, .ref (a 5)), (1, .int x), (2, .int (nI m0))] → W p l e (headSpec wsX1_sortIn ({ frames := 0, cells := 0, slots := 0, locals := 0 })).room s m ([.ref (a 5), .int x, .int (nI m0)] : List Value).toArray below meth c H locs 0 0 (MQ below (va_Qv (fun (u : StA) => u = (v, insG x m0 g)) (atA dC dI cI cZ cJ a A) A) ([.ref (a 5), .int x, .int (nI m0)] : List Value).toArray s 0 0 A) (F0 m 14 ls []) := by
        intro q
        induction q with
        | zero =>
          intro G hq hG H locs hP hD hS ls hl
          refine lv_iload_n hx hb dX1_sortIn_14 rfl (lv_at hl 0 rfl) ?_
          refine lv_if_le (tgt := 50) hx hb dX1_sortIn_15 (by decide) (fun c15 => ?_) (fun c15 => ?_)
          · refine lv_aload_n hx hb dX1_sortIn_50 rfl (lv_at hl 1 rfl) ?_
            refine va_get (D := (dC, dI)) (ci := 1) (v := .ref (a 14)) (C := RX1) (T := TX1) (N := 10) hx hb hts (fun w h => List.mem_cons_of_mem _ (iw_X1 w h)) hown hK hP 5 rfl rfl 8 (by decide) (hts _ (List.mem_cons_of_mem _ fl_X1_sortedSums)) (fun _ h9 => h9) rfl dX1_sortIn_51 ?_
            refine lv_iload_n hx hb dX1_sortIn_54 rfl (lv_at hl 0 rfl) ?_
            refine lv_iload_n hx hb dX1_sortIn_55 rfl (lv_at hl 2 rfl) ?_
            refine wi_ast hx hb hK hP hD hS 14 0 rfl rfl (k := 0) (by omega) (by decide) dX1_sortIn_56 (fun H locs hP hD hS => ?_)
            have hP : va_P (dC, dI) clA (wA cI cZ a v (upg G 11 0 x)) H := hP
            have hD : va_D A (wA cI cZ a v (upg G 11 0 x)) := hD
            exact (W.vret hx hb hr (fun t9 ht hW => ⟨⟨(v, (upg G 11 0 x)), rfl, (by rw [← hG]; rfl), ⟨by rw [ht]; exact hP, va_K.moved hW.alike hK, hD⟩⟩, hS.F ht⟩) hS.2.2 dX1_sortIn_57)
          · exact absurd (show nI 0 ≤ 0 by decide) c15
        | succ q ih =>
          intro G hq hG H locs hP hD hS ls hl
          refine lv_iload_n hx hb dX1_sortIn_14 rfl (lv_at hl 0 rfl) ?_
          refine lv_if_le (tgt := 50) hx hb dX1_sortIn_15 (by decide) (fun c15 => ?_) (fun c15 => ?_)
          · exact absurd c15 (nI_nle (by omega) (by omega))
          · refine lv_aload_n hx hb dX1_sortIn_18 rfl (lv_at hl 1 rfl) ?_
            refine va_get (D := (dC, dI)) (ci := 1) (v := .ref (a 14)) (C := RX1) (T := TX1) (N := 10) hx hb hts (fun w h => List.mem_cons_of_mem _ (iw_X1 w h)) hown hK hP 5 rfl rfl 8 (by decide) (hts _ (List.mem_cons_of_mem _ fl_X1_sortedSums)) (fun _ h9 => h9) rfl dX1_sortIn_19 ?_
            refine lv_iload_n hx hb dX1_sortIn_22 rfl (lv_at hl 0 rfl) ?_
            refine lv_iconst (v := 1) hx hb dX1_sortIn_23 (by decide) ?_
            refine lv_isub hx hb dX1_sortIn_24 ?_
            refine wi_aldE hx hb hK hP 14 0 rfl rfl (k := q) (nI_pred q) (by omega) (by decide) dX1_sortIn_25 ?_
            refine lv_iload_n hx hb dX1_sortIn_26 rfl (lv_at hl 2 rfl) ?_
            refine lv_icmp_le (tgt := 50) hx hb dX1_sortIn_27 (by decide) (fun c27 => ?_) (fun c27 => ?_)
            · have n27 := Int32.not_lt.mpr c27
              refine lv_aload_n hx hb dX1_sortIn_50 rfl (lv_at hl 1 rfl) ?_
              refine va_get (D := (dC, dI)) (ci := 1) (v := .ref (a 14)) (C := RX1) (T := TX1) (N := 10) hx hb hts (fun w h => List.mem_cons_of_mem _ (iw_X1 w h)) hown hK hP 5 rfl rfl 8 (by decide) (hts _ (List.mem_cons_of_mem _ fl_X1_sortedSums)) (fun _ h9 => h9) rfl dX1_sortIn_51 ?_
              refine lv_iload_n hx hb dX1_sortIn_54 rfl (lv_at hl 0 rfl) ?_
              refine lv_iload_n hx hb dX1_sortIn_55 rfl (lv_at hl 2 rfl) ?_
              refine wi_ast hx hb hK hP hD hS 14 0 rfl rfl (k := ((q + 1))) (by omega) (by decide) dX1_sortIn_56 (fun H locs hP hD hS => ?_)
              have hP : va_P (dC, dI) clA (wA cI cZ a v (upg G 11 ((q + 1)) x)) H := hP
              have hD : va_D A (wA cI cZ a v (upg G 11 ((q + 1)) x)) := hD
              exact (W.vret hx hb hr (fun t9 ht hW => ⟨⟨(v, (upg G 11 ((q + 1)) x)), rfl, (by rw [← hG, insG, if_neg n27]), ⟨by rw [ht]; exact hP, va_K.moved hW.alike hK, hD⟩⟩, hS.F ht⟩) hS.2.2 dX1_sortIn_57)
            · have n27 := Int32.not_le.mp c27
              refine lv_aload_n hx hb dX1_sortIn_30 rfl (lv_at hl 1 rfl) ?_
              refine va_get (D := (dC, dI)) (ci := 1) (v := .ref (a 14)) (C := RX1) (T := TX1) (N := 10) hx hb hts (fun w h => List.mem_cons_of_mem _ (iw_X1 w h)) hown hK hP 5 rfl rfl 8 (by decide) (hts _ (List.mem_cons_of_mem _ fl_X1_sortedSums)) (fun _ h9 => h9) rfl dX1_sortIn_31 ?_
              refine lv_iload_n hx hb dX1_sortIn_34 rfl (lv_at hl 0 rfl) ?_
              refine lv_aload_n hx hb dX1_sortIn_35 rfl (lv_at hl 1 rfl) ?_
              refine va_get (D := (dC, dI)) (ci := 1) (v := .ref (a 14)) (C := RX1) (T := TX1) (N := 10) hx hb hts (fun w h => List.mem_cons_of_mem _ (iw_X1 w h)) hown hK hP 5 rfl rfl 8 (by decide) (hts _ (List.mem_cons_of_mem _ fl_X1_sortedSums)) (fun _ h9 => h9) rfl dX1_sortIn_36 ?_
              refine lv_iload_n hx hb dX1_sortIn_39 rfl (lv_at hl 0 rfl) ?_
              refine lv_iconst (v := 1) hx hb dX1_sortIn_40 (by decide) ?_
              refine lv_isub hx hb dX1_sortIn_41 ?_
              refine wi_aldE hx hb hK hP 14 0 rfl rfl (k := q) (nI_pred q) (by omega) (by decide) dX1_sortIn_42 ?_
              refine wi_ast hx hb hK hP hD hS 14 0 rfl rfl (k := ((q + 1))) (by omega) (by decide) dX1_sortIn_43 (fun H locs hP hD hS => ?_)
              have hP : va_P (dC, dI) clA (wA cI cZ a v (upg G 11 ((q + 1)) (G 11 q))) H := hP
              have hD : va_D A (wA cI cZ a v (upg G 11 ((q + 1)) (G 11 q))) := hD
              refine lv_iinc (v := nI q) (lv' := [(3, .int (nI q)), (0, .ref (a 5)), (1, .int x), (2, .int (nI m0))]) hx hb dX1_sortIn_44 hl (k := 0) rfl (by rw [show (Int32.ofInt (-1)) = -1 from by decide]; exact pk_m1 q) (by decide) rfl (fun ls hl => ?_)
              refine lv_goto (tgt := 14) hx hb dX1_sortIn_47 (by decide) ?_
              exact ih _ (by omega) (by rw [← hG, insG, if_pos n27]) _ _ hP hD hS ls (lv_sub hl [0, 1, 2, 3] rfl)
      exact lp m0 g hm rfl _ _ hP hD hS ls (lv_sub hl [0, 1, 2, 3] rfl)
    · exact absurd (nI_lt (a := m0) (b := 200) hm (by decide)) c8
set_option maxHeartbeats 4000000 in
set_option maxRecDepth 100000 in
theorem c_joinMore (l : Launch) (dC : Nat → ClassId) (dI : Nat → Nat → Nat) (cI cZ cJ : ClassId) (a : Nat → Nat) (v : Nat → Int32) (g : Nat → Nat → Int32) (sz : Nat)  : Met l yX2_joinMore wsX2_joinMore ({ frames := 1, cells := 0, slots := 0, locals := 23 }) (va_Pc [.ref (a 17)] (fun U => U.heap.size = sz ∧ va_P (dC, dI) clA (wA cI cZ a v g) U.heap ∧ va_K (dC, dI) clA (tyA cI cZ cJ) U ∧ va_D (fun _ => True) (wA cI cZ a v g))) (va_Qv (fun (u : StA) => u = ((jmS n10 (v, g)).1, (jmS n10 (v, g)).2)) (atA dC dI cI cZ cJ a (va_A (wA cI cZ a v g) sz)) (va_A (wA cI cZ a v g) sz))  0 0 (va_A (wA cI cZ a v g) sz) := by
  refine Met.ofW (cc := cX2_joinMore) (maxL := 3) (ret := none) (by decide) rfl ?_
  intro p e s m args below meth c s₁ B hml hv
  obtain ⟨rfl, hsz, hP, hK, hD0⟩ := hv
  have hx := B.exec
  have hb := B.bytes
  have hr := B.returns
  have hts := atoms_spec (ws := wsX2_joinMore) B.pre
  have hown : s.vm.findClass RX2 = some m.cls := findClass_of_methodNamed B.named
  have hlocks := B.notSynchronized
  subst hsz
  have hD := hD0.self (sz := s.heap.size)
  generalize hAe : va_A (wA cI cZ a v g) s.heap.size = A at hD ⊢
  have hA : ∀ q : Nat, s.heap.size ≤ q → A q := fun q h => by rw [← hAe]; exact Or.inr h
  have hS : va_S A s.heap s.heap [] := va_S.rf
  have hP : va_P (dC, dI) clA (wA cI cZ a v g) s.heap := hP
  have hl := lv_entry ([.ref (a 17)]) (n := 3) (Nat.le_of_ble_eq_true rfl)
  rw [lg_entry_eq]
  generalize (lg_sl ([.ref (a 17)]) ++ List.replicate (3 - (lg_sl ([.ref (a 17)])).length) Slot.unset).toArray = ls at hl ⊢
  have hl : lv_has ls 3 [(0, .ref (a 17))] := hl
  refine lv_iconst (v := 0) hx hb dX2_joinMore_0 (by decide) ?_
  refine lv_istore_n (lv' := [(1, .int 0), (0, .ref (a 17))]) hx hb dX2_joinMore_1 rfl hl (by decide) rfl (fun ls hl => ?_)
  have lp : ∀ (d k : Nat) (V : Nat → Int32) (G : Nat → Nat → Int32), k + d = 10 → jmS d (V, G) = jmS n10 (v, g) → ∀ (H : Heap) (locs : List Loc), va_P (dC, dI) clA (wA cI cZ a V G) H → va_D A (wA cI cZ a V G) → va_S A s.heap H locs → ∀ (ls : Array Slot), lv_has ls 3 [(1, .int (nI k)), (0, .ref (a 17))] → W p l e (headSpec wsX2_joinMore ({ frames := 1, cells := 0, slots := 0, locals := 23 })).room s m ([.ref (a 17)] : List Value).toArray below meth c H locs 0 0 (MQ below (va_Qv (fun (u : StA) => u = ((jmS n10 (v, g)).1, (jmS n10 (v, g)).2)) (atA dC dI cI cZ cJ a A) A) ([.ref (a 17)] : List Value).toArray s 0 0 A) (F0 m 2 ls []) := by
    intro d
    induction d with
    | zero =>
      intro k V G hk hG H locs hP hD hS ls hl
      refine lv_iload_n hx hb dX2_joinMore_2 rfl (lv_at hl 0 rfl) ?_
      refine lv_bipush (v := 10) hx hb dX2_joinMore_3 (by decide) ?_
      refine lv_icmp_ge (tgt := 57) hx hb dX2_joinMore_5 (by decide) (fun c5 => ?_) (fun c5 => ?_)
      · exact (W.vret hx hb hr (fun t9 ht hW => ⟨⟨(V, G), rfl, (by rw [← hG]; rfl), ⟨by rw [ht]; exact hP, va_K.moved hW.alike hK, hD⟩⟩, hS.F ht⟩) hS.2.2 dX2_joinMore_57)
      · exact absurd (by rw [show k = 10 by omega]; decide) c5
    | succ d ih =>
      intro k V G hk hG H locs hP hD hS ls hl
      refine lv_iload_n hx hb dX2_joinMore_2 rfl (lv_at hl 0 rfl) ?_
      refine lv_bipush (v := 10) hx hb dX2_joinMore_3 (by decide) ?_
      refine lv_icmp_ge (tgt := 57) hx hb dX2_joinMore_5 (by decide) (fun c5 => ?_) (fun c5 => ?_)
      · exact absurd c5 (nI_ge (a := k) (b := 10) (by omega) (by decide))
      · refine lv_aload_n hx hb dX2_joinMore_8 rfl (lv_at hl 1 rfl) ?_
        refine va_get (D := (dC, dI)) (ci := 2) (v := .int (V 8)) (C := RX2) (T := TX2) (N := 4) hx hb hts (fun w h => List.mem_cons_of_mem _ (iw_X2 w h)) hown hK hP 17 rfl rfl 3 (by decide) (hts _ (List.mem_cons_of_mem _ fl_X2_together)) (fun _ h9 => h9) rfl dX2_joinMore_9 ?_
        refine lv_aload_n hx hb dX2_joinMore_12 rfl (lv_at hl 1 rfl) ?_
        refine va_get (D := (dC, dI)) (ci := 2) (v := .int (V 7)) (C := RX2) (T := TX2) (N := 4) hx hb hts (fun w h => List.mem_cons_of_mem _ (iw_X2 w h)) hown hK hP 17 rfl rfl 2 (by decide) (hts _ (List.mem_cons_of_mem _ fl_X2_lowestShown)) (fun _ h9 => h9) rfl dX2_joinMore_13 ?_
        refine lv_icmp_ge (tgt := 57) hx hb dX2_joinMore_16 (by decide) (fun c16 => ?_) (fun c16 => ?_)
        · have n16 := Int32.not_lt.mpr c16
          exact (W.vret hx hb hr (fun t9 ht hW => ⟨⟨(V, G), rfl, (by rw [← hG, jmS, if_neg n16]), ⟨by rw [ht]; exact hP, va_K.moved hW.alike hK, hD⟩⟩, hS.F ht⟩) hS.2.2 dX2_joinMore_57)
        · have n16 := Int32.not_le.mp c16
          refine lv_aload_n hx hb dX2_joinMore_19 rfl (lv_at hl 1 rfl) ?_
          refine vp_callSi (W.runV (As := []) (rest := []) ⟨hx, hb, hml, hown, hts⟩ (c_fewest l dC dI cI cZ cJ a V G ) (cwV 0 hts (gd_V ml_X2_X2_areaOfFewest im_X2_areaOfFewest se_X2_areaOfFewest in_X2 kX2_areaOfFewest) rfl rfl rfl (by decide +kernel) ⟨Nat.le_of_ble_eq_true rfl, Nat.le_of_ble_eq_true rfl⟩) ⟨fun _ U g mk q => by obtain ⟨q0, qP, qK⟩ := q; exact ⟨q0, qP, va_K.moved (u := U) (U := U.calling g mk _) (Vm.Alike.refl U.vm) qK⟩, va_recv hK hP (ci := 2) (q0 := 17) rfl rfl, fun U hU hW => ⟨rfl, by rw [hU]; exact hP, va_K.moved hW.alike hK⟩⟩ rfl rfl hl.1 rfl (lv_room (Nat.le_of_ble_eq_true rfl)) dX2_joinMore_20 ⟨Nat.le_of_ble_eq_true rfl, Nat.le_of_ble_eq_true rfl⟩) (fun r20 hr20 => ?_)
          subst hr20
          refine lv_istore_n (lv' := [(2, .int (fewest G)), (1, .int (nI k)), (0, .ref (a 17))]) hx hb dX2_joinMore_23 rfl hl (by decide) rfl (fun ls hl => ?_)
          refine lv_iload_n hx hb dX2_joinMore_24 rfl (lv_at hl 0 rfl) ?_
          refine lv_if_ge (tgt := 29) hx hb dX2_joinMore_25 (by decide) (fun c25 => ?_) (fun c25 => ?_)
          · have n25 := Int32.not_lt.mpr c25
            refine lv_aload_n hx hb dX2_joinMore_29 rfl (lv_at hl 2 rfl) ?_
            refine va_get (D := (dC, dI)) (ci := 2) (v := .ref (a 19)) (C := RX2) (T := TX2) (N := 4) hx hb hts (fun w h => List.mem_cons_of_mem _ (iw_X2 w h)) hown hK hP 17 rfl rfl 1 (by decide) (hts _ (List.mem_cons_of_mem _ fl_X2_isJoined)) (fun _ h9 => h9) rfl dX2_joinMore_30 ?_
            refine lv_iload_n hx hb dX2_joinMore_33 rfl (lv_at hl 0 rfl) ?_
            refine lv_iconst (v := 1) hx hb dX2_joinMore_34 (by decide) ?_
            refine wz_astE hx hb hK hP hD hS 19 1 rfl rfl (k := ((fewest G).toNatClampNeg)) (fewest_at G n25).1 rfl (fewest_at G n25).2 (by decide) dX2_joinMore_35 (fun H locs hP hD hS => ?_)
            have hP : va_P (dC, dI) clA (wA cI cZ a V (upg G 14 ((fewest G).toNatClampNeg) 1)) H := hP
            have hD : va_D A (wA cI cZ a V (upg G 14 ((fewest G).toNatClampNeg) 1)) := hD
            refine lv_aload_n hx hb dX2_joinMore_36 rfl (lv_at hl 2 rfl) ?_
            refine lv_dup hx hb dX2_joinMore_37 rfl ?_
            refine va_get (D := (dC, dI)) (ci := 2) (v := .int (V 8)) (C := RX2) (T := TX2) (N := 4) hx hb hts (fun w h => List.mem_cons_of_mem _ (iw_X2 w h)) hown hK hP 17 rfl rfl 3 (by decide) (hts _ (List.mem_cons_of_mem _ fl_X2_together)) (fun _ h9 => h9) rfl dX2_joinMore_38 ?_
            refine lv_aload_n hx hb dX2_joinMore_41 rfl (lv_at hl 2 rfl) ?_
            refine va_get (D := (dC, dI)) (ci := 2) (v := .ref (a 18)) (C := RX2) (T := TX2) (N := 4) hx hb hts (fun w h => List.mem_cons_of_mem _ (iw_X2 w h)) hown hK hP 17 rfl rfl 0 (by decide) (hts _ (List.mem_cons_of_mem _ fl_X2_rowsOfArea)) (fun _ h9 => h9) rfl dX2_joinMore_42 ?_
            refine lv_iload_n hx hb dX2_joinMore_45 rfl (lv_at hl 0 rfl) ?_
            refine wi_aldE hx hb hK hP 18 0 rfl rfl (k := ((fewest G).toNatClampNeg)) (fewest_at G n25).1 (fewest_at G n25).2 (by decide) dX2_joinMore_46 ?_
            refine lv_iadd hx hb dX2_joinMore_47 ?_
            refine va_put (D := (dC, dI)) (ci := 2) (v := .int ((V 8) + ((upg G 14 ((fewest G).toNatClampNeg) 1) 13 ((fewest G).toNatClampNeg)))) (ty := .int) (C := RX2) (T := TX2) (N := 4) hx hb hts (fun w h => List.mem_cons_of_mem _ (iw_X2 w h)) tyX2 tyX2_ok nmX2 hown hK hP hD hS 17 rfl rfl 3 (by decide) (hts _ (List.mem_cons_of_mem _ fl_X2_together)) (fun _ h9 => h9) rfl (by decide +kernel) rfl rfl (Nat.le_of_ble_eq_true rfl) dX2_joinMore_48 (fun H locs hP hD hS => ?_)
            have hP : va_P (dC, dI) clA (wA cI cZ a (upd V 8 ((V 8) + ((upg G 14 ((fewest G).toNatClampNeg) 1) 13 ((fewest G).toNatClampNeg)))) (upg G 14 ((fewest G).toNatClampNeg) 1)) H := hP
            have hD : va_D A (wA cI cZ a (upd V 8 ((V 8) + ((upg G 14 ((fewest G).toNatClampNeg) 1) 13 ((fewest G).toNatClampNeg)))) (upg G 14 ((fewest G).toNatClampNeg) 1)) := hD
            refine lv_iinc (v := nI (k + 1)) (lv' := [(1, .int (nI (k + 1))), (2, .int (fewest G)), (0, .ref (a 17))]) hx hb dX2_joinMore_51 hl (k := 1) rfl (nI_1 k) (by decide) rfl (fun ls hl => ?_)
            refine lv_goto (tgt := 2) hx hb dX2_joinMore_54 (by decide) ?_
            exact ih (k + 1) _ _ (by omega) (by rw [← hG, jmS, if_pos n16, if_neg n25]; rfl) _ _ hP hD hS ls (lv_sub hl [0, 2] rfl)
          · have n25 := Int32.not_le.mp c25
            exact (W.vret hx hb hr (fun t9 ht hW => ⟨⟨(V, G), rfl, (by rw [← hG, jmS, if_pos n16, if_pos n25]), ⟨by rw [ht]; exact hP, va_K.moved hW.alike hK, hD⟩⟩, hS.F ht⟩) hS.2.2 dX2_joinMore_28)
  exact lp 10 0 v g rfl (by rw [n10_eq]) _ _ hP hD hS ls (lv_sub hl [0, 1] rfl)
set_option maxHeartbeats 4000000 in
set_option maxRecDepth 100000 in
theorem c_join (l : Launch) (dC : Nat → ClassId) (dI : Nat → Nat → Nat) (cI cZ cJ : ClassId) (a : Nat → Nat) (v : Nat → Int32) (g : Nat → Nat → Int32) (sz : Nat) (n : Nat) (hn : v 5 = nI n) (hn2 : n ≤ 200) (f t : Int32) : Met l yX2_join wsX2_join ({ frames := 3, cells := 0, slots := 0, locals := 74 }) (va_Pc [.ref (a 17), .ref (a 5), .int f, .int t] (fun U => U.heap.size = sz ∧ va_P (dC, dI) clA (wA cI cZ a v g) U.heap ∧ va_K (dC, dI) clA (tyA cI cZ cJ) U ∧ va_D (fun _ => True) (wA cI cZ a v g))) (va_Qv (fun (u : StA) => u = ((joinS v g f t n).1, (joinS v g f t n).2)) (atA dC dI cI cZ cJ a (va_A (wA cI cZ a v g) sz)) (va_A (wA cI cZ a v g) sz))  0 0 (va_A (wA cI cZ a v g) sz) := by
  refine Met.ofW (cc := cX2_join) (maxL := 6) (ret := none) (by decide) rfl ?_
  intro p e s m args below meth c s₁ B hml hv
  obtain ⟨rfl, hsz, hP, hK, hD0⟩ := hv
  have hx := B.exec
  have hb := B.bytes
  have hr := B.returns
  have hts := atoms_spec (ws := wsX2_join) B.pre
  have hown : s.vm.findClass RX2 = some m.cls := findClass_of_methodNamed B.named
  have hlocks := B.notSynchronized
  subst hsz
  have hD := hD0.self (sz := s.heap.size)
  generalize hAe : va_A (wA cI cZ a v g) s.heap.size = A at hD ⊢
  have hA : ∀ q : Nat, s.heap.size ≤ q → A q := fun q h => by rw [← hAe]; exact Or.inr h
  have hS : va_S A s.heap s.heap [] := va_S.rf
  have hP : va_P (dC, dI) clA (wA cI cZ a v g) s.heap := hP
  have hl := lv_entry ([.ref (a 17), .ref (a 5), .int f, .int t]) (n := 6) (Nat.le_of_ble_eq_true rfl)
  rw [lg_entry_eq]
  generalize (lg_sl ([.ref (a 17), .ref (a 5), .int f, .int t]) ++ List.replicate (6 - (lg_sl ([.ref (a 17), .ref (a 5), .int f, .int t])).length) Slot.unset).toArray = ls at hl ⊢
  have hl : lv_has ls 6 [(0, .ref (a 17)), (1, .ref (a 5)), (2, .int f), (3, .int t)] := hl
  refine lv_aload_n hx hb dX2_join_0 rfl (lv_at hl 0 rfl) ?_
  refine lv_iconst (v := 0) hx hb dX2_join_1 (by decide) ?_
  refine va_put (D := (dC, dI)) (ci := 2) (v := .int 0) (ty := .int) (C := RX2) (T := TX2) (N := 4) hx hb hts (fun w h => List.mem_cons_of_mem _ (iw_X2 w h)) tyX2 tyX2_ok nmX2 hown hK hP hD hS 17 rfl rfl 3 (by decide) (hts _ (List.mem_cons_of_mem _ fl_X2_together)) (fun _ h9 => h9) rfl (by decide +kernel) rfl rfl (Nat.le_of_ble_eq_true rfl) dX2_join_2 (fun H locs hP hD hS => ?_)
  have hP : va_P (dC, dI) clA (wA cI cZ a (upd v 8 0) g) H := hP
  have hD : va_D A (wA cI cZ a (upd v 8 0) g) := hD
  refine lv_iconst (v := 0) hx hb dX2_join_5 (by decide) ?_
  refine lv_istore (lv' := [(4, .int 0), (0, .ref (a 17)), (1, .ref (a 5)), (2, .int f), (3, .int t)]) hx hb dX2_join_6 hl (by decide) rfl (fun ls hl => ?_)
  have lp : ∀ (d k : Nat), k ≤ 10 → 10 + 1 ≤ k + d → ∀ (H : Heap) (locs : List Loc), va_P (dC, dI) clA (wA cI cZ a (jlS v g f t n k).1 (jlS v g f t n k).2) H → va_D A (wA cI cZ a (jlS v g f t n k).1 (jlS v g f t n k).2) → va_S A s.heap H locs → ∀ (ls : Array Slot), lv_has ls 6 [(4, .int (nI k)), (0, .ref (a 17)), (1, .ref (a 5)), (2, .int f), (3, .int t)] → W p l e (headSpec wsX2_join ({ frames := 3, cells := 0, slots := 0, locals := 74 })).room s m ([.ref (a 17), .ref (a 5), .int f, .int t] : List Value).toArray below meth c H locs 0 0 (MQ below (va_Qv (fun (u : StA) => u = ((joinS v g f t n).1, (joinS v g f t n).2)) (atA dC dI cI cZ cJ a A) A) ([.ref (a 17), .ref (a 5), .int f, .int t] : List Value).toArray s 0 0 A) (F0 m 8 ls []) := by
    intro d
    induction d with
    | zero => intro k h1 h2; exact absurd h2 (by omega)
    | succ d ih =>
      intro k hkn hkd H locs hP hD hS ls hl
      have hn : (jlS v g f t n k).1 5 = nI n := by rw [jlS_5]; exact hn
      refine lv_iload hx hb dX2_join_8 (lv_at hl 0 rfl) ?_
      refine lv_bipush (v := 10) hx hb dX2_join_10 (by decide) ?_
      refine lv_icmp_ge (tgt := 93) hx hb dX2_join_12 (by decide) (fun c12 => ?_) (fun c12 => ?_)
      · have n12 := Int32.not_lt.mpr c12
        have hkn2 : k = 10 := Nat.le_antisymm hkn ((nI_leI (a := 10) (b := k) (by decide) (by omega)).mp c12)
        have hk10 : k = n10 := by rw [n10_eq]; exact hkn2
        refine lv_aload_n hx hb dX2_join_93 rfl (lv_at hl 1 rfl) ?_
        refine va_get (D := (dC, dI)) (ci := 2) (v := .int ((jlS v g f t n k).1 8)) (C := RX2) (T := TX2) (N := 4) hx hb hts (fun w h => List.mem_cons_of_mem _ (iw_X2 w h)) hown hK hP 17 rfl rfl 3 (by decide) (hts _ (List.mem_cons_of_mem _ fl_X2_together)) (fun _ h9 => h9) rfl dX2_join_94 ?_
        refine lv_if_le (tgt := 119) hx hb dX2_join_97 (by decide) (fun c97 => ?_) (fun c97 => ?_)
        · have n97 := Int32.not_lt.mpr c97
          exact (W.vret hx hb hr (fun t9 ht hW => ⟨⟨((jlS v g f t n k).1, (jlS v g f t n k).2), rfl, (by rw [joinS, ← hk10]; simp [c12, n12, c97, n97]), ⟨by rw [ht]; exact hP, va_K.moved hW.alike hK, hD⟩⟩, hS.F ht⟩) hS.2.2 dX2_join_119)
        · have n97 := Int32.not_le.mp c97
          refine lv_aload_n hx hb dX2_join_100 rfl (lv_at hl 1 rfl) ?_
          refine lv_dup hx hb dX2_join_101 rfl ?_
          refine va_get (D := (dC, dI)) (ci := 2) (v := .int ((jlS v g f t n k).1 8)) (C := RX2) (T := TX2) (N := 4) hx hb hts (fun w h => List.mem_cons_of_mem _ (iw_X2 w h)) hown hK hP 17 rfl rfl 3 (by decide) (hts _ (List.mem_cons_of_mem _ fl_X2_together)) (fun _ h9 => h9) rfl dX2_join_102 ?_
          refine lv_aload_n hx hb dX2_join_105 rfl (lv_at hl 2 rfl) ?_
          refine lv_iload_n hx hb dX2_join_106 rfl (lv_at hl 3 rfl) ?_
          refine lv_iload_n hx hb dX2_join_107 rfl (lv_at hl 4 rfl) ?_
          refine vp_callSi (W.runV (As := [.int f, .int t]) (rest := [.int ((jlS v g f t n k).1 8), .ref (a 17)]) ⟨hx, hb, hml, hown, hts⟩ (c_hidden l dC dI cI cZ cJ a (jlS v g f t n k).1 (jlS v g f t n k).2 n hn hn2 f t) (cwV 2 hts (gd_V ml_X2_X1_hidden im_X1_hidden se_X1_hidden in_X1 kX1_hidden) rfl rfl rfl (by decide +kernel) ⟨Nat.le_of_ble_eq_true rfl, Nat.le_of_ble_eq_true rfl⟩) ⟨fun _ U g mk q => by obtain ⟨q0, qP, qK⟩ := q; exact ⟨q0, qP, va_K.moved (u := U) (U := U.calling g mk _) (Vm.Alike.refl U.vm) qK⟩, va_recv hK hP (ci := 1) (q0 := 5) rfl rfl, fun U hU hW => ⟨rfl, by rw [hU]; exact hP, va_K.moved hW.alike hK⟩⟩ rfl rfl hl.1 rfl (lv_room (Nat.le_of_ble_eq_true rfl)) dX2_join_108 ⟨Nat.le_of_ble_eq_true rfl, Nat.le_of_ble_eq_true rfl⟩) (fun r108 hr108 => ?_)
          subst hr108
          refine lv_iadd hx hb dX2_join_111 ?_
          refine lv_topi (fun x111 e111 => ?_)
          refine va_put (D := (dC, dI)) (ci := 2) (v := .int x111) (ty := .int) (C := RX2) (T := TX2) (N := 4) hx hb hts (fun w h => List.mem_cons_of_mem _ (iw_X2 w h)) tyX2 tyX2_ok nmX2 hown hK hP hD hS 17 rfl rfl 3 (by decide) (hts _ (List.mem_cons_of_mem _ fl_X2_together)) (fun _ h9 => h9) rfl (by decide +kernel) rfl rfl (Nat.le_of_ble_eq_true rfl) dX2_join_112 (fun H locs hP hD hS => ?_)
          have hP : va_P (dC, dI) clA (wA cI cZ a (upd (jlS v g f t n k).1 8 x111) (jlS v g f t n k).2) H := hP
          have hD : va_D A (wA cI cZ a (upd (jlS v g f t n k).1 8 x111) (jlS v g f t n k).2) := hD
          refine lv_aload_n hx hb dX2_join_115 rfl (lv_at hl 1 rfl) ?_
          have hFc := va_free (wc := (wA cI cZ a (upd (jlS v g f t n k).1 8 x111) (jlS v g f t n k).2)) hD hS hA [0, 1, 2, 3, 4, 5, 6, 7, 8, 9, 10, 11, 12, 13, 14, 15, 16, 17, 18, 19] rfl
          refine va_callv (va_runV (As := []) (rest := []) ⟨hx, hb, hml, hown, hts⟩ (c_joinMore l dC dI cI cZ cJ a (upd (jlS v g f t n k).1 8 x111) (jlS v g f t n k).2 H.size ) (cwV 0 hts (gd_V ml_X2_X2_joinMore im_X2_joinMore se_X2_joinMore in_X2 kX2_joinMore) rfl rfl rfl (by decide +kernel) ⟨Nat.le_of_ble_eq_true rfl, Nat.le_of_ble_eq_true rfl⟩) ⟨fun _ U g mk q => by obtain ⟨q0, q1, qP, qK, qD⟩ := q; exact ⟨q0, q1, qP, va_K.moved (u := U) (U := U.calling g mk _) (Vm.Alike.refl U.vm) qK, qD⟩, va_recv hK hP (ci := 2) (q0 := 17) rfl rfl, fun U hU hW => ⟨rfl, by rw [hU], by rw [hU]; exact hP, va_K.moved hW.alike hK, hD.weaken (fun _ _ _ _ => trivial)⟩⟩ rfl rfl hl.1 rfl (lv_room (Nat.le_of_ble_eq_true rfl)) dX2_join_116 ⟨Nat.le_of_ble_eq_true rfl, Nat.le_of_ble_eq_true rfl⟩) hS (fun q _ h => hFc q h) hFc (fun u9 t9 H1 locs ht hvm hw hB hz1 hk1 hS => ?_)
          subst hw
          obtain ⟨hP, hK1, hD1⟩ := hB
          rw [ht] at hP
          have hD := hD1.weaken (fun k q _ h => hFc q.1 h)
          clear hFc hk1 hD1 hK1
          generalize H1 = H at hP hS ⊢
          have hP : va_P (dC, dI) clA (wA cI cZ a (jmS n10 ((upd (jlS v g f t n k).1 8 x111), (jlS v g f t n k).2)).1 (jmS n10 ((upd (jlS v g f t n k).1 8 x111), (jlS v g f t n k).2)).2) H := hP
          have hD : va_D A (wA cI cZ a (jmS n10 ((upd (jlS v g f t n k).1 8 x111), (jlS v g f t n k).2)).1 (jmS n10 ((upd (jlS v g f t n k).1 8 x111), (jlS v g f t n k).2)).2) := hD
          exact (W.vret hx hb hr (fun t9 ht hW => ⟨⟨((jmS n10 ((upd (jlS v g f t n k).1 8 x111), (jlS v g f t n k).2)).1, (jmS n10 ((upd (jlS v g f t n k).1 8 x111), (jlS v g f t n k).2)).2), rfl, (by rw [joinS, ← hk10]; simp [c12, n12, c97, n97, e111]), ⟨by rw [ht]; exact hP, va_K.moved hW.alike hK, hD⟩⟩, hS.F ht⟩) hS.2.2 dX2_join_119)
      · have n12 := Int32.not_le.mp c12
        have hk : k < 10 := Nat.lt_of_not_le (fun h => c12 (nI_le (a := 10) h (by omega)))
        refine lv_aload_n hx hb dX2_join_15 rfl (lv_at hl 2 rfl) ?_
        refine lv_iload_n hx hb dX2_join_16 rfl (lv_at hl 3 rfl) ?_
        refine lv_iload_n hx hb dX2_join_17 rfl (lv_at hl 4 rfl) ?_
        refine lv_iconst (v := (-1)) hx hb dX2_join_18 (by decide) ?_
        refine lv_iload hx hb dX2_join_19 (lv_at hl 0 rfl) ?_
        refine vp_callSi (W.runV (As := [.int f, .int t, .int (-1), .int (nI k)]) (rest := []) ⟨hx, hb, hml, hown, hts⟩ (c_number l dC dI cI cZ cJ a (jlS v g f t n k).1 (jlS v g f t n k).2 n hn hn2 f t (-1) (nI k)) (cwV 4 hts (gd_V ml_X2_X1_number im_X1_number se_X1_number in_X1 kX1_number) rfl rfl rfl (by decide +kernel) ⟨Nat.le_of_ble_eq_true rfl, Nat.le_of_ble_eq_true rfl⟩) ⟨fun _ U g mk q => by obtain ⟨q0, qP, qK⟩ := q; exact ⟨q0, qP, va_K.moved (u := U) (U := U.calling g mk _) (Vm.Alike.refl U.vm) qK⟩, va_recv hK hP (ci := 1) (q0 := 5) rfl rfl, fun U hU hW => ⟨rfl, by rw [hU]; exact hP, va_K.moved hW.alike hK⟩⟩ rfl rfl hl.1 rfl (lv_room (Nat.le_of_ble_eq_true rfl)) dX2_join_21 ⟨Nat.le_of_ble_eq_true rfl, Nat.le_of_ble_eq_true rfl⟩) (fun r21 hr21 => ?_)
        subst hr21
        refine lv_istore (lv' := [(5, .int (cnt (fun i => askB (jlS v g f t n k).2 i f t (-1) (nI k)) n)), (4, .int (nI k)), (0, .ref (a 17)), (1, .ref (a 5)), (2, .int f), (3, .int t)]) hx hb dX2_join_24 hl (by decide) rfl (fun ls hl => ?_)
        refine lv_aload_n hx hb dX2_join_26 rfl (lv_at hl 2 rfl) ?_
        refine va_get (D := (dC, dI)) (ci := 2) (v := .ref (a 18)) (C := RX2) (T := TX2) (N := 4) hx hb hts (fun w h => List.mem_cons_of_mem _ (iw_X2 w h)) hown hK hP 17 rfl rfl 0 (by decide) (hts _ (List.mem_cons_of_mem _ fl_X2_rowsOfArea)) (fun _ h9 => h9) rfl dX2_join_27 ?_
        refine lv_iload hx hb dX2_join_30 (lv_at hl 1 rfl) ?_
        refine lv_iload hx hb dX2_join_32 (lv_at hl 0 rfl) ?_
        refine wi_ast hx hb hK hP hD hS 18 0 rfl rfl (k := k) (by omega) (by decide) dX2_join_34 (fun H locs hP hD hS => ?_)
        have hP : va_P (dC, dI) clA (wA cI cZ a (jlS v g f t n k).1 (upg (jlS v g f t n k).2 13 k (cnt (fun i => askB (jlS v g f t n k).2 i f t (-1) (nI k)) n))) H := hP
        have hD : va_D A (wA cI cZ a (jlS v g f t n k).1 (upg (jlS v g f t n k).2 13 k (cnt (fun i => askB (jlS v g f t n k).2 i f t (-1) (nI k)) n))) := hD
        refine lv_aload_n hx hb dX2_join_35 rfl (lv_at hl 2 rfl) ?_
        refine va_get (D := (dC, dI)) (ci := 2) (v := .ref (a 19)) (C := RX2) (T := TX2) (N := 4) hx hb hts (fun w h => List.mem_cons_of_mem _ (iw_X2 w h)) hown hK hP 17 rfl rfl 1 (by decide) (hts _ (List.mem_cons_of_mem _ fl_X2_isJoined)) (fun _ h9 => h9) rfl dX2_join_36 ?_
        refine lv_iload hx hb dX2_join_39 (lv_at hl 1 rfl) ?_
        refine lv_iload hx hb dX2_join_41 (lv_at hl 0 rfl) ?_
        refine lv_iconst (v := 1) hx hb dX2_join_43 (by decide) ?_
        refine lv_icmp_lt (tgt := 60) hx hb dX2_join_44 (by decide) (fun c44 => ?_) (fun c44 => ?_)
        · have n44 := Int32.not_le.mpr c44
          refine lv_iconst (v := 0) hx hb dX2_join_60 (by decide) ?_
          refine wz_ast hx hb hK hP hD hS 19 1 rfl rfl (k := k) rfl (by omega) (by decide) dX2_join_61 (fun H locs hP hD hS => ?_)
          have hP : va_P (dC, dI) clA (wA cI cZ a (jlS v g f t n k).1 (upg (upg (jlS v g f t n k).2 13 k (cnt (fun i => askB (jlS v g f t n k).2 i f t (-1) (nI k)) n)) 14 k 0)) H := hP
          have hD : va_D A (wA cI cZ a (jlS v g f t n k).1 (upg (upg (jlS v g f t n k).2 13 k (cnt (fun i => askB (jlS v g f t n k).2 i f t (-1) (nI k)) n)) 14 k 0)) := hD
          refine lv_aload_n hx hb dX2_join_62 rfl (lv_at hl 2 rfl) ?_
          refine lv_dup hx hb dX2_join_63 rfl ?_
          refine va_get (D := (dC, dI)) (ci := 2) (v := .int ((jlS v g f t n k).1 8)) (C := RX2) (T := TX2) (N := 4) hx hb hts (fun w h => List.mem_cons_of_mem _ (iw_X2 w h)) hown hK hP 17 rfl rfl 3 (by decide) (hts _ (List.mem_cons_of_mem _ fl_X2_together)) (fun _ h9 => h9) rfl dX2_join_64 ?_
          refine lv_aload_n hx hb dX2_join_67 rfl (lv_at hl 2 rfl) ?_
          refine va_get (D := (dC, dI)) (ci := 2) (v := .ref (a 19)) (C := RX2) (T := TX2) (N := 4) hx hb hts (fun w h => List.mem_cons_of_mem _ (iw_X2 w h)) hown hK hP 17 rfl rfl 1 (by decide) (hts _ (List.mem_cons_of_mem _ fl_X2_isJoined)) (fun _ h9 => h9) rfl dX2_join_68 ?_
          refine lv_iload hx hb dX2_join_71 (lv_at hl 1 rfl) ?_
          refine wz_ald hx hb hK hP 19 1 rfl rfl (k := k) (by omega) (by decide) dX2_join_73 ?_
          rw [upg_at]
          refine lv_if_eq (tgt := 82) hx hb dX2_join_74 (by decide) (fun c74 => ?_) (fun c74 => ?_)
          · refine lv_iconst (v := 0) hx hb dX2_join_82 (by decide) ?_
            refine lv_iadd hx hb dX2_join_83 ?_
            refine va_put (D := (dC, dI)) (ci := 2) (v := .int (((jlS v g f t n k).1 8) + 0)) (ty := .int) (C := RX2) (T := TX2) (N := 4) hx hb hts (fun w h => List.mem_cons_of_mem _ (iw_X2 w h)) tyX2 tyX2_ok nmX2 hown hK hP hD hS 17 rfl rfl 3 (by decide) (hts _ (List.mem_cons_of_mem _ fl_X2_together)) (fun _ h9 => h9) rfl (by decide +kernel) rfl rfl (Nat.le_of_ble_eq_true rfl) dX2_join_84 (fun H locs hP hD hS => ?_)
            have hP : va_P (dC, dI) clA (wA cI cZ a (upd (jlS v g f t n k).1 8 (((jlS v g f t n k).1 8) + 0)) (upg (upg (jlS v g f t n k).2 13 k (cnt (fun i => askB (jlS v g f t n k).2 i f t (-1) (nI k)) n)) 14 k 0)) H := hP
            have hD : va_D A (wA cI cZ a (upd (jlS v g f t n k).1 8 (((jlS v g f t n k).1 8) + 0)) (upg (upg (jlS v g f t n k).2 13 k (cnt (fun i => askB (jlS v g f t n k).2 i f t (-1) (nI k)) n)) 14 k 0)) := hD
            refine lv_iinc (v := nI (k + 1)) (lv' := [(4, .int (nI (k + 1))), (5, .int (cnt (fun i => askB (jlS v g f t n k).2 i f t (-1) (nI k)) n)), (0, .ref (a 17)), (1, .ref (a 5)), (2, .int f), (3, .int t)]) hx hb dX2_join_87 hl (k := 1) rfl (nI_1 k) (by decide) rfl (fun ls hl => ?_)
            refine lv_goto (tgt := 8) hx hb dX2_join_90 (by decide) ?_
            have eV : (jlS v g f t n (k + 1)).1 = (upd (jlS v g f t n k).1 8 (((jlS v g f t n k).1 8) + 0)) := (by simp [jlS, c12, n12, c44, n44])
            have eG : (jlS v g f t n (k + 1)).2 = (upg (upg (jlS v g f t n k).2 13 k (cnt (fun i => askB (jlS v g f t n k).2 i f t (-1) (nI k)) n)) 14 k 0) := (by simp [jlS, c12, n12, c44, n44])
            exact ih (k + 1) (by omega) (by omega) _ _ (by rw [eV, eG]; exact hP) (by rw [eV, eG]; exact hD) hS ls (lv_sub hl [0, 2, 3, 4, 5] rfl)
          · exact absurd c74 (by decide)
        · have n44 := Int32.not_lt.mp c44
          refine lv_iload hx hb dX2_join_47 (lv_at hl 0 rfl) ?_
          refine lv_aload_n hx hb dX2_join_49 rfl (lv_at hl 2 rfl) ?_
          refine va_get (D := (dC, dI)) (ci := 2) (v := .int ((jlS v g f t n k).1 7)) (C := RX2) (T := TX2) (N := 4) hx hb hts (fun w h => List.mem_cons_of_mem _ (iw_X2 w h)) hown hK hP 17 rfl rfl 2 (by decide) (hts _ (List.mem_cons_of_mem _ fl_X2_lowestShown)) (fun _ h9 => h9) rfl dX2_join_50 ?_
          refine lv_icmp_ge (tgt := 60) hx hb dX2_join_53 (by decide) (fun c53 => ?_) (fun c53 => ?_)
          · have n53 := Int32.not_lt.mpr c53
            refine lv_iconst (v := 0) hx hb dX2_join_60 (by decide) ?_
            refine wz_ast hx hb hK hP hD hS 19 1 rfl rfl (k := k) rfl (by omega) (by decide) dX2_join_61 (fun H locs hP hD hS => ?_)
            have hP : va_P (dC, dI) clA (wA cI cZ a (jlS v g f t n k).1 (upg (upg (jlS v g f t n k).2 13 k (cnt (fun i => askB (jlS v g f t n k).2 i f t (-1) (nI k)) n)) 14 k 0)) H := hP
            have hD : va_D A (wA cI cZ a (jlS v g f t n k).1 (upg (upg (jlS v g f t n k).2 13 k (cnt (fun i => askB (jlS v g f t n k).2 i f t (-1) (nI k)) n)) 14 k 0)) := hD
            refine lv_aload_n hx hb dX2_join_62 rfl (lv_at hl 2 rfl) ?_
            refine lv_dup hx hb dX2_join_63 rfl ?_
            refine va_get (D := (dC, dI)) (ci := 2) (v := .int ((jlS v g f t n k).1 8)) (C := RX2) (T := TX2) (N := 4) hx hb hts (fun w h => List.mem_cons_of_mem _ (iw_X2 w h)) hown hK hP 17 rfl rfl 3 (by decide) (hts _ (List.mem_cons_of_mem _ fl_X2_together)) (fun _ h9 => h9) rfl dX2_join_64 ?_
            refine lv_aload_n hx hb dX2_join_67 rfl (lv_at hl 2 rfl) ?_
            refine va_get (D := (dC, dI)) (ci := 2) (v := .ref (a 19)) (C := RX2) (T := TX2) (N := 4) hx hb hts (fun w h => List.mem_cons_of_mem _ (iw_X2 w h)) hown hK hP 17 rfl rfl 1 (by decide) (hts _ (List.mem_cons_of_mem _ fl_X2_isJoined)) (fun _ h9 => h9) rfl dX2_join_68 ?_
            refine lv_iload hx hb dX2_join_71 (lv_at hl 1 rfl) ?_
            refine wz_ald hx hb hK hP 19 1 rfl rfl (k := k) (by omega) (by decide) dX2_join_73 ?_
            rw [upg_at]
            refine lv_if_eq (tgt := 82) hx hb dX2_join_74 (by decide) (fun c74 => ?_) (fun c74 => ?_)
            · refine lv_iconst (v := 0) hx hb dX2_join_82 (by decide) ?_
              refine lv_iadd hx hb dX2_join_83 ?_
              refine va_put (D := (dC, dI)) (ci := 2) (v := .int (((jlS v g f t n k).1 8) + 0)) (ty := .int) (C := RX2) (T := TX2) (N := 4) hx hb hts (fun w h => List.mem_cons_of_mem _ (iw_X2 w h)) tyX2 tyX2_ok nmX2 hown hK hP hD hS 17 rfl rfl 3 (by decide) (hts _ (List.mem_cons_of_mem _ fl_X2_together)) (fun _ h9 => h9) rfl (by decide +kernel) rfl rfl (Nat.le_of_ble_eq_true rfl) dX2_join_84 (fun H locs hP hD hS => ?_)
              have hP : va_P (dC, dI) clA (wA cI cZ a (upd (jlS v g f t n k).1 8 (((jlS v g f t n k).1 8) + 0)) (upg (upg (jlS v g f t n k).2 13 k (cnt (fun i => askB (jlS v g f t n k).2 i f t (-1) (nI k)) n)) 14 k 0)) H := hP
              have hD : va_D A (wA cI cZ a (upd (jlS v g f t n k).1 8 (((jlS v g f t n k).1 8) + 0)) (upg (upg (jlS v g f t n k).2 13 k (cnt (fun i => askB (jlS v g f t n k).2 i f t (-1) (nI k)) n)) 14 k 0)) := hD
              refine lv_iinc (v := nI (k + 1)) (lv' := [(4, .int (nI (k + 1))), (5, .int (cnt (fun i => askB (jlS v g f t n k).2 i f t (-1) (nI k)) n)), (0, .ref (a 17)), (1, .ref (a 5)), (2, .int f), (3, .int t)]) hx hb dX2_join_87 hl (k := 1) rfl (nI_1 k) (by decide) rfl (fun ls hl => ?_)
              refine lv_goto (tgt := 8) hx hb dX2_join_90 (by decide) ?_
              have eV : (jlS v g f t n (k + 1)).1 = (upd (jlS v g f t n k).1 8 (((jlS v g f t n k).1 8) + 0)) := (by simp [jlS, c12, n12, c44, n44, c53, n53])
              have eG : (jlS v g f t n (k + 1)).2 = (upg (upg (jlS v g f t n k).2 13 k (cnt (fun i => askB (jlS v g f t n k).2 i f t (-1) (nI k)) n)) 14 k 0) := (by simp [jlS, c12, n12, c44, n44, c53, n53])
              exact ih (k + 1) (by omega) (by omega) _ _ (by rw [eV, eG]; exact hP) (by rw [eV, eG]; exact hD) hS ls (lv_sub hl [0, 2, 3, 4, 5] rfl)
            · exact absurd c74 (by decide)
          · have n53 := Int32.not_le.mp c53
            refine lv_iconst (v := 1) hx hb dX2_join_56 (by decide) ?_
            refine lv_goto (tgt := 61) hx hb dX2_join_57 (by decide) ?_
            refine wz_ast hx hb hK hP hD hS 19 1 rfl rfl (k := k) rfl (by omega) (by decide) dX2_join_61 (fun H locs hP hD hS => ?_)
            have hP : va_P (dC, dI) clA (wA cI cZ a (jlS v g f t n k).1 (upg (upg (jlS v g f t n k).2 13 k (cnt (fun i => askB (jlS v g f t n k).2 i f t (-1) (nI k)) n)) 14 k 1)) H := hP
            have hD : va_D A (wA cI cZ a (jlS v g f t n k).1 (upg (upg (jlS v g f t n k).2 13 k (cnt (fun i => askB (jlS v g f t n k).2 i f t (-1) (nI k)) n)) 14 k 1)) := hD
            refine lv_aload_n hx hb dX2_join_62 rfl (lv_at hl 2 rfl) ?_
            refine lv_dup hx hb dX2_join_63 rfl ?_
            refine va_get (D := (dC, dI)) (ci := 2) (v := .int ((jlS v g f t n k).1 8)) (C := RX2) (T := TX2) (N := 4) hx hb hts (fun w h => List.mem_cons_of_mem _ (iw_X2 w h)) hown hK hP 17 rfl rfl 3 (by decide) (hts _ (List.mem_cons_of_mem _ fl_X2_together)) (fun _ h9 => h9) rfl dX2_join_64 ?_
            refine lv_aload_n hx hb dX2_join_67 rfl (lv_at hl 2 rfl) ?_
            refine va_get (D := (dC, dI)) (ci := 2) (v := .ref (a 19)) (C := RX2) (T := TX2) (N := 4) hx hb hts (fun w h => List.mem_cons_of_mem _ (iw_X2 w h)) hown hK hP 17 rfl rfl 1 (by decide) (hts _ (List.mem_cons_of_mem _ fl_X2_isJoined)) (fun _ h9 => h9) rfl dX2_join_68 ?_
            refine lv_iload hx hb dX2_join_71 (lv_at hl 1 rfl) ?_
            refine wz_ald hx hb hK hP 19 1 rfl rfl (k := k) (by omega) (by decide) dX2_join_73 ?_
            rw [upg_at]
            refine lv_if_eq (tgt := 82) hx hb dX2_join_74 (by decide) (fun c74 => ?_) (fun c74 => ?_)
            · exact absurd c74 (by decide)
            · refine lv_iload hx hb dX2_join_77 (lv_at hl 0 rfl) ?_
              refine lv_goto (tgt := 83) hx hb dX2_join_79 (by decide) ?_
              refine lv_iadd hx hb dX2_join_83 ?_
              refine va_put (D := (dC, dI)) (ci := 2) (v := .int (((jlS v g f t n k).1 8) + (cnt (fun i => askB (jlS v g f t n k).2 i f t (-1) (nI k)) n))) (ty := .int) (C := RX2) (T := TX2) (N := 4) hx hb hts (fun w h => List.mem_cons_of_mem _ (iw_X2 w h)) tyX2 tyX2_ok nmX2 hown hK hP hD hS 17 rfl rfl 3 (by decide) (hts _ (List.mem_cons_of_mem _ fl_X2_together)) (fun _ h9 => h9) rfl (by decide +kernel) rfl rfl (Nat.le_of_ble_eq_true rfl) dX2_join_84 (fun H locs hP hD hS => ?_)
              have hP : va_P (dC, dI) clA (wA cI cZ a (upd (jlS v g f t n k).1 8 (((jlS v g f t n k).1 8) + (cnt (fun i => askB (jlS v g f t n k).2 i f t (-1) (nI k)) n))) (upg (upg (jlS v g f t n k).2 13 k (cnt (fun i => askB (jlS v g f t n k).2 i f t (-1) (nI k)) n)) 14 k 1)) H := hP
              have hD : va_D A (wA cI cZ a (upd (jlS v g f t n k).1 8 (((jlS v g f t n k).1 8) + (cnt (fun i => askB (jlS v g f t n k).2 i f t (-1) (nI k)) n))) (upg (upg (jlS v g f t n k).2 13 k (cnt (fun i => askB (jlS v g f t n k).2 i f t (-1) (nI k)) n)) 14 k 1)) := hD
              refine lv_iinc (v := nI (k + 1)) (lv' := [(4, .int (nI (k + 1))), (5, .int (cnt (fun i => askB (jlS v g f t n k).2 i f t (-1) (nI k)) n)), (0, .ref (a 17)), (1, .ref (a 5)), (2, .int f), (3, .int t)]) hx hb dX2_join_87 hl (k := 1) rfl (nI_1 k) (by decide) rfl (fun ls hl => ?_)
              refine lv_goto (tgt := 8) hx hb dX2_join_90 (by decide) ?_
              have eV : (jlS v g f t n (k + 1)).1 = (upd (jlS v g f t n k).1 8 (((jlS v g f t n k).1 8) + (cnt (fun i => askB (jlS v g f t n k).2 i f t (-1) (nI k)) n))) := (by simp [jlS, c12, n12, c44, n44, c53, n53])
              have eG : (jlS v g f t n (k + 1)).2 = (upg (upg (jlS v g f t n k).2 13 k (cnt (fun i => askB (jlS v g f t n k).2 i f t (-1) (nI k)) n)) 14 k 1) := (by simp [jlS, c12, n12, c44, n44, c53, n53])
              exact ih (k + 1) (by omega) (by omega) _ _ (by rw [eV, eG]; exact hP) (by rw [eV, eG]; exact hD) hS ls (lv_sub hl [0, 2, 3, 4, 5] rfl)
  exact lp (10 + 1) 0 (by omega) (by omega) _ _ hP hD hS ls (lv_sub hl [0, 1, 2, 3, 4] rfl)
set_option maxHeartbeats 4000000 in
set_option maxRecDepth 100000 in
theorem c_sumAt (l : Launch) (dC : Nat → ClassId) (dI : Nat → Nat → Nat) (cI cZ cJ : ClassId) (a : Nat → Nat) (v : Nat → Int32) (g : Nat → Nat → Int32) (sz : Nat) (n : Nat) (hn : v 5 = nI n) (hn2 : n ≤ 200) (pp f t kd ar : Int32) : Met l yX1_sumAtPlace wsX1_sumAtPlace ({ frames := 2, cells := 0, slots := 0, locals := 48 }) (va_Pc [.ref (a 5), .int pp, .int f, .int t, .int kd, .int ar] (fun U => U.heap.size = sz ∧ va_P (dC, dI) clA (wA cI cZ a v g) U.heap ∧ va_K (dC, dI) clA (tyA cI cZ cJ) U ∧ va_D (fun _ => True) (wA cI cZ a v g))) (va_Qi (fun (r : Int32) (u : StA) => r = plI (spS g f t kd ar n).2 pp (spS g f t kd ar n).1 ∧ u = (v, (spS g f t kd ar n).2)) (atA dC dI cI cZ cJ a (va_A (wA cI cZ a v g) sz)) (va_A (wA cI cZ a v g) sz))  0 0 (va_A (wA cI cZ a v g) sz) := by
  refine Met.ofW (cc := cX1_sumAtPlace) (maxL := 8) (ret := (some .int)) (by decide) rfl ?_
  intro p e s m args below meth c s₁ B hml hv
  obtain ⟨rfl, hsz, hP, hK, hD0⟩ := hv
  have hx := B.exec
  have hb := B.bytes
  have hr := B.returns
  have hts := atoms_spec (ws := wsX1_sumAtPlace) B.pre
  have hown : s.vm.findClass RX1 = some m.cls := findClass_of_methodNamed B.named
  have hlocks := B.notSynchronized
  subst hsz
  have hD := hD0.self (sz := s.heap.size)
  generalize hAe : va_A (wA cI cZ a v g) s.heap.size = A at hD ⊢
  have hA : ∀ q : Nat, s.heap.size ≤ q → A q := fun q h => by rw [← hAe]; exact Or.inr h
  have hS : va_S A s.heap s.heap [] := va_S.rf
  have hP : va_P (dC, dI) clA (wA cI cZ a v g) s.heap := hP
  have hl := lv_entry ([.ref (a 5), .int pp, .int f, .int t, .int kd, .int ar]) (n := 8) (Nat.le_of_ble_eq_true rfl)
  rw [lg_entry_eq]
  generalize (lg_sl ([.ref (a 5), .int pp, .int f, .int t, .int kd, .int ar]) ++ List.replicate (8 - (lg_sl ([.ref (a 5), .int pp, .int f, .int t, .int kd, .int ar])).length) Slot.unset).toArray = ls at hl ⊢
  have hl : lv_has ls 8 [(0, .ref (a 5)), (1, .int pp), (2, .int f), (3, .int t), (4, .int kd), (5, .int ar)] := hl
  refine lv_iconst (v := 0) hx hb dX1_sumAtPlace_0 (by decide) ?_
  refine lv_istore (lv' := [(6, .int 0), (0, .ref (a 5)), (1, .int pp), (2, .int f), (3, .int t), (4, .int kd), (5, .int ar)]) hx hb dX1_sumAtPlace_1 hl (by decide) rfl (fun ls hl => ?_)
  refine lv_iconst (v := 0) hx hb dX1_sumAtPlace_3 (by decide) ?_
  refine lv_istore (lv' := [(7, .int 0), (6, .int 0), (0, .ref (a 5)), (1, .int pp), (2, .int f), (3, .int t), (4, .int kd), (5, .int ar)]) hx hb dX1_sumAtPlace_4 hl (by decide) rfl (fun ls hl => ?_)
  have lp : ∀ (d k : Nat), k ≤ n → n + 1 ≤ k + d → ∀ (H : Heap) (locs : List Loc), va_P (dC, dI) clA (wA cI cZ a v (spS g f t kd ar k).2) H → va_D A (wA cI cZ a v (spS g f t kd ar k).2) → va_S A s.heap H locs → ∀ (ls : Array Slot), lv_has ls 8 [(7, .int (nI k)), (6, .int (nI (spS g f t kd ar k).1)), (0, .ref (a 5)), (1, .int pp), (2, .int f), (3, .int t), (4, .int kd), (5, .int ar)] → W p l e (headSpec wsX1_sumAtPlace ({ frames := 2, cells := 0, slots := 0, locals := 48 })).room s m ([.ref (a 5), .int pp, .int f, .int t, .int kd, .int ar] : List Value).toArray below meth c H locs 0 0 (MQ below (va_Qi (fun (r : Int32) (u : StA) => r = plI (spS g f t kd ar n).2 pp (spS g f t kd ar n).1 ∧ u = (v, (spS g f t kd ar n).2)) (atA dC dI cI cZ cJ a A) A) ([.ref (a 5), .int pp, .int f, .int t, .int kd, .int ar] : List Value).toArray s 0 0 A) (F0 m 6 ls []) := by
    intro d
    induction d with
    | zero => intro k h1 h2; exact absurd h2 (by omega)
    | succ d ih =>
      intro k hkn hkd H locs hP hD hS ls hl
      refine lv_iload hx hb dX1_sumAtPlace_6 (lv_at hl 0 rfl) ?_
      refine lv_aload_n hx hb dX1_sumAtPlace_8 rfl (lv_at hl 2 rfl) ?_
      refine va_get (D := (dC, dI)) (ci := 1) (v := .int (v 5)) (C := RX1) (T := TX1) (N := 10) hx hb hts (fun w h => List.mem_cons_of_mem _ (iw_X1 w h)) hown hK hP 5 rfl rfl 9 (by decide) (hts _ (List.mem_cons_of_mem _ fl_X1_size)) (fun _ h9 => h9) rfl dX1_sumAtPlace_9 ?_
      refine lv_icmp_ge (tgt := 69) hx hb dX1_sumAtPlace_12 (by decide) (fun c12 => ?_) (fun c12 => ?_)
      · have n12 := Int32.not_lt.mpr c12
        rw [hn] at c12
        have hkn2 : k = n := Nat.le_antisymm hkn ((nI_leI (by omega) (by omega)).mp c12)
        refine lv_iload_n hx hb dX1_sumAtPlace_69 rfl (lv_at hl 3 rfl) ?_
        refine lv_iload hx hb dX1_sumAtPlace_70 (lv_at hl 1 rfl) ?_
        refine lv_imul hx hb dX1_sumAtPlace_72 ?_
        refine lv_bipush (v := 100) hx hb dX1_sumAtPlace_73 (by decide) ?_
        refine lv_iadd hx hb dX1_sumAtPlace_75 ?_
        refine lv_iconst (v := 1) hx hb dX1_sumAtPlace_76 (by decide) ?_
        refine lv_isub hx hb dX1_sumAtPlace_77 ?_
        refine lv_bipush (v := 100) hx hb dX1_sumAtPlace_78 (by decide) ?_
        refine lv_idiv hx hb dX1_sumAtPlace_80 (by decide) ?_
        refine lv_istore (lv' := [(7, .int ((((pp * (nI (spS g f t kd ar k).1)) + 100) - 1) / 100)), (6, .int (nI (spS g f t kd ar k).1)), (0, .ref (a 5)), (1, .int pp), (2, .int f), (3, .int t), (4, .int kd), (5, .int ar)]) hx hb dX1_sumAtPlace_81 hl (by decide) rfl (fun ls hl => ?_)
        refine lv_iload hx hb dX1_sumAtPlace_83 (lv_at hl 0 rfl) ?_
        refine lv_iconst (v := 1) hx hb dX1_sumAtPlace_85 (by decide) ?_
        refine lv_icmp_lt (tgt := 108) hx hb dX1_sumAtPlace_86 (by decide) (fun c86 => ?_) (fun c86 => ?_)
        · have n86 := Int32.not_le.mpr c86
          refine lv_iconst (v := (-1)) hx hb dX1_sumAtPlace_108 (by decide) ?_
          exact (W.iret (v := -1) hx hb hr (fun t9 ht hW => ⟨⟨_, (v, (spS g f t kd ar k).2), rfl, ⟨by subst hkn2; simp [plI, c12, n12, c86, n86], by subst hkn2; rfl⟩, ⟨by rw [ht]; exact hP, va_K.moved hW.alike hK, hD⟩⟩, hS.F ht⟩) hS.2.2 dX1_sumAtPlace_109)
        · have n86 := Int32.not_lt.mp c86
          refine lv_iload hx hb dX1_sumAtPlace_89 (lv_at hl 0 rfl) ?_
          refine lv_iload hx hb dX1_sumAtPlace_91 (lv_at hl 1 rfl) ?_
          refine lv_icmp_gt (tgt := 108) hx hb dX1_sumAtPlace_93 (by decide) (fun c93 => ?_) (fun c93 => ?_)
          · have n93 := Int32.not_le.mpr c93
            refine lv_iconst (v := (-1)) hx hb dX1_sumAtPlace_108 (by decide) ?_
            exact (W.iret (v := -1) hx hb hr (fun t9 ht hW => ⟨⟨_, (v, (spS g f t kd ar k).2), rfl, ⟨by subst hkn2; simp [plI, c12, n12, c86, n86, c93, n93], by subst hkn2; rfl⟩, ⟨by rw [ht]; exact hP, va_K.moved hW.alike hK, hD⟩⟩, hS.F ht⟩) hS.2.2 dX1_sumAtPlace_109)
          · have n93 := Int32.not_lt.mp c93
            refine lv_aload_n hx hb dX1_sumAtPlace_96 rfl (lv_at hl 2 rfl) ?_
            refine va_get (D := (dC, dI)) (ci := 1) (v := .ref (a 14)) (C := RX1) (T := TX1) (N := 10) hx hb hts (fun w h => List.mem_cons_of_mem _ (iw_X1 w h)) hown hK hP 5 rfl rfl 8 (by decide) (hts _ (List.mem_cons_of_mem _ fl_X1_sortedSums)) (fun _ h9 => h9) rfl dX1_sumAtPlace_97 ?_
            refine lv_iload hx hb dX1_sumAtPlace_100 (lv_at hl 0 rfl) ?_
            refine lv_iconst (v := 1) hx hb dX1_sumAtPlace_102 (by decide) ?_
            refine lv_isub hx hb dX1_sumAtPlace_103 ?_
            refine wi_aldE hx hb hK hP 14 0 rfl rfl (k := (((pp * nI (spS g f t kd ar k).1 + 100 - 1) / 100 - 1).toNatClampNeg)) (idx_ok n86 n93 (Nat.le_trans (spS_le g f t kd ar k) (by omega))).1 (idx_ok n86 n93 (Nat.le_trans (spS_le g f t kd ar k) (by omega))).2 (by decide) dX1_sumAtPlace_104 ?_
            refine lv_goto (tgt := 109) hx hb dX1_sumAtPlace_105 (by decide) ?_
            exact (W.iret (v := (spS g f t kd ar k).2 11 (((pp * nI (spS g f t kd ar k).1 + 100 - 1) / 100 - 1).toNatClampNeg)) hx hb hr (fun t9 ht hW => ⟨⟨_, (v, (spS g f t kd ar k).2), rfl, ⟨by subst hkn2; simp [plI, c12, n12, c86, n86, c93, n93], by subst hkn2; rfl⟩, ⟨by rw [ht]; exact hP, va_K.moved hW.alike hK, hD⟩⟩, hS.F ht⟩) hS.2.2 dX1_sumAtPlace_109)
      · have n12 := Int32.not_le.mp c12
        rw [hn] at c12
        have hk : k < n := Nat.lt_of_not_le (fun h => c12 (nI_le h (by omega)))
        refine lv_aload_n hx hb dX1_sumAtPlace_15 rfl (lv_at hl 2 rfl) ?_
        refine lv_iload hx hb dX1_sumAtPlace_16 (lv_at hl 0 rfl) ?_
        refine lv_iload_n hx hb dX1_sumAtPlace_18 rfl (lv_at hl 4 rfl) ?_
        refine lv_iload_n hx hb dX1_sumAtPlace_19 rfl (lv_at hl 5 rfl) ?_
        refine lv_iload hx hb dX1_sumAtPlace_20 (lv_at hl 6 rfl) ?_
        refine lv_iload hx hb dX1_sumAtPlace_22 (lv_at hl 7 rfl) ?_
        refine vp_callSi (W.runV (As := [.int (nI k), .int f, .int t, .int kd, .int ar]) (rest := []) ⟨hx, hb, hml, hown, hts⟩ (c_isAsked l dC dI cI cZ cJ a v (spS g f t kd ar k).2 k f t kd ar (by omega)) (cwV 5 hts (gd_V ml_X1_X1_isAsked im_X1_isAsked se_X1_isAsked in_X1 kX1_isAsked) rfl rfl rfl (by decide +kernel) ⟨Nat.le_of_ble_eq_true rfl, Nat.le_of_ble_eq_true rfl⟩) ⟨fun _ U g mk q => by obtain ⟨q0, qP, qK⟩ := q; exact ⟨q0, qP, va_K.moved (u := U) (U := U.calling g mk _) (Vm.Alike.refl U.vm) qK⟩, va_recv hK hP (ci := 1) (q0 := 5) rfl rfl, fun U hU hW => ⟨rfl, by rw [hU]; exact hP, va_K.moved hW.alike hK⟩⟩ rfl rfl hl.1 rfl (lv_room (Nat.le_of_ble_eq_true rfl)) dX1_sumAtPlace_24 ⟨Nat.le_of_ble_eq_true rfl, Nat.le_of_ble_eq_true rfl⟩) (fun r24 hr24 => ?_)
        subst hr24
        refine lv_if_eq (tgt := 63) hx hb dX1_sumAtPlace_27 (by decide) (fun c27 => ?_) (fun c27 => ?_)
        · have c27 := bI_0.mp c27
          refine lv_iinc (v := nI (k + 1)) (lv' := [(7, .int (nI (k + 1))), (6, .int (nI (spS g f t kd ar k).1)), (0, .ref (a 5)), (1, .int pp), (2, .int f), (3, .int t), (4, .int kd), (5, .int ar)]) hx hb dX1_sumAtPlace_63 hl (k := 0) rfl (nI_1 k) (by decide) rfl (fun ls hl => ?_)
          refine lv_goto (tgt := 6) hx hb dX1_sumAtPlace_66 (by decide) ?_
          have eG : (spS g f t kd ar (k + 1)).2 = (spS g f t kd ar k).2 := (by simp [spS, c12, n12, c27])
          have eL0 : (.int (nI (spS g f t kd ar (k + 1)).1) : Value) = .int (nI (spS g f t kd ar k).1) := (by simp [spS, c12, n12, c27])
          exact ih (k + 1) (by omega) (by omega) _ _ (by rw [eG]; exact hP) (by rw [eG]; exact hD) hS ls (by rw [eL0]; exact lv_sub hl [0, 1, 2, 3, 4, 5, 6, 7] rfl)
        · have c27 := bI_n0.mp c27
          refine lv_aload_n hx hb dX1_sumAtPlace_30 rfl (lv_at hl 2 rfl) ?_
          refine lv_iload hx hb dX1_sumAtPlace_31 (lv_at hl 0 rfl) ?_
          refine vp_callSi (W.runV (As := [.int (nI k)]) (rest := []) ⟨hx, hb, hml, hown, hts⟩ (c_hasBoth l dC dI cI cZ cJ a v (spS g f t kd ar k).2 k (by omega)) (cwV 1 hts (gd_V ml_X1_X1_hasBothValues im_X1_hasBothValues se_X1_hasBothValues in_X1 kX1_hasBothValues) rfl rfl rfl (by decide +kernel) ⟨Nat.le_of_ble_eq_true rfl, Nat.le_of_ble_eq_true rfl⟩) ⟨fun _ U g mk q => by obtain ⟨q0, qP, qK⟩ := q; exact ⟨q0, qP, va_K.moved (u := U) (U := U.calling g mk _) (Vm.Alike.refl U.vm) qK⟩, va_recv hK hP (ci := 1) (q0 := 5) rfl rfl, fun U hU hW => ⟨rfl, by rw [hU]; exact hP, va_K.moved hW.alike hK⟩⟩ rfl rfl hl.1 rfl (lv_room (Nat.le_of_ble_eq_true rfl)) dX1_sumAtPlace_33 ⟨Nat.le_of_ble_eq_true rfl, Nat.le_of_ble_eq_true rfl⟩) (fun r33 hr33 => ?_)
          subst hr33
          refine lv_if_eq (tgt := 63) hx hb dX1_sumAtPlace_36 (by decide) (fun c36 => ?_) (fun c36 => ?_)
          · have c36 := bI_0.mp c36
            refine lv_iinc (v := nI (k + 1)) (lv' := [(7, .int (nI (k + 1))), (6, .int (nI (spS g f t kd ar k).1)), (0, .ref (a 5)), (1, .int pp), (2, .int f), (3, .int t), (4, .int kd), (5, .int ar)]) hx hb dX1_sumAtPlace_63 hl (k := 0) rfl (nI_1 k) (by decide) rfl (fun ls hl => ?_)
            refine lv_goto (tgt := 6) hx hb dX1_sumAtPlace_66 (by decide) ?_
            have eG : (spS g f t kd ar (k + 1)).2 = (spS g f t kd ar k).2 := (by simp [spS, c12, n12, c27, c36])
            have eL0 : (.int (nI (spS g f t kd ar (k + 1)).1) : Value) = .int (nI (spS g f t kd ar k).1) := (by simp [spS, c12, n12, c27, c36])
            exact ih (k + 1) (by omega) (by omega) _ _ (by rw [eG]; exact hP) (by rw [eG]; exact hD) hS ls (by rw [eL0]; exact lv_sub hl [0, 1, 2, 3, 4, 5, 6, 7] rfl)
          · have c36 := bI_n0.mp c36
            refine lv_aload_n hx hb dX1_sumAtPlace_39 rfl (lv_at hl 2 rfl) ?_
            refine lv_aload_n hx hb dX1_sumAtPlace_40 rfl (lv_at hl 2 rfl) ?_
            refine va_get (D := (dC, dI)) (ci := 1) (v := .ref (a 12)) (C := RX1) (T := TX1) (N := 10) hx hb hts (fun w h => List.mem_cons_of_mem _ (iw_X1 w h)) hown hK hP 5 rfl rfl 6 (by decide) (hts _ (List.mem_cons_of_mem _ fl_X1_turnOuts)) (fun _ h9 => h9) rfl dX1_sumAtPlace_41 ?_
            refine lv_iload hx hb dX1_sumAtPlace_44 (lv_at hl 0 rfl) ?_
            refine wi_ald hx hb hK hP 12 0 rfl rfl (k := k) (by omega) (by decide) dX1_sumAtPlace_46 ?_
            refine lv_aload_n hx hb dX1_sumAtPlace_47 rfl (lv_at hl 2 rfl) ?_
            refine va_get (D := (dC, dI)) (ci := 1) (v := .ref (a 13)) (C := RX1) (T := TX1) (N := 10) hx hb hts (fun w h => List.mem_cons_of_mem _ (iw_X1 w h)) hown hK hP 5 rfl rfl 7 (by decide) (hts _ (List.mem_cons_of_mem _ fl_X1_travels)) (fun _ h9 => h9) rfl dX1_sumAtPlace_48 ?_
            refine lv_iload hx hb dX1_sumAtPlace_51 (lv_at hl 0 rfl) ?_
            refine wi_ald hx hb hK hP 13 0 rfl rfl (k := k) (by omega) (by decide) dX1_sumAtPlace_53 ?_
            refine lv_iadd hx hb dX1_sumAtPlace_54 ?_
            refine lv_iload hx hb dX1_sumAtPlace_55 (lv_at hl 1 rfl) ?_
            have hsp := spS_le g f t kd ar k
            have hFc := va_free (wc := (wA cI cZ a v (spS g f t kd ar k).2)) hD hS hA [0, 1, 2, 3, 4, 5, 6, 7, 8, 9, 10, 11, 12, 13, 14, 15, 16, 17, 18, 19] rfl
            refine va_callv (va_runV (As := [.int (((spS g f t kd ar k).2 9 k) + ((spS g f t kd ar k).2 10 k)), .int (nI (spS g f t kd ar k).1)]) (rest := []) ⟨hx, hb, hml, hown, hts⟩ (c_sortIn l dC dI cI cZ cJ a v (spS g f t kd ar k).2 H.size (((spS g f t kd ar k).2 9 k) + ((spS g f t kd ar k).2 10 k)) ((spS g f t kd ar k).1) (by omega)) (cwV 2 hts (gd_V ml_X1_X1_sortIn im_X1_sortIn se_X1_sortIn in_X1 kX1_sortIn) rfl rfl rfl (by decide +kernel) ⟨Nat.le_of_ble_eq_true rfl, Nat.le_of_ble_eq_true rfl⟩) ⟨fun _ U g mk q => by obtain ⟨q0, q1, qP, qK, qD⟩ := q; exact ⟨q0, q1, qP, va_K.moved (u := U) (U := U.calling g mk _) (Vm.Alike.refl U.vm) qK, qD⟩, va_recv hK hP (ci := 1) (q0 := 5) rfl rfl, fun U hU hW => ⟨rfl, by rw [hU], by rw [hU]; exact hP, va_K.moved hW.alike hK, hD.weaken (fun _ _ _ _ => trivial)⟩⟩ rfl rfl hl.1 rfl (lv_room (Nat.le_of_ble_eq_true rfl)) dX1_sumAtPlace_57 ⟨Nat.le_of_ble_eq_true rfl, Nat.le_of_ble_eq_true rfl⟩) hS (fun q _ h => hFc q h) hFc (fun u9 t9 H1 locs ht hvm hw hB hz1 hk1 hS => ?_)
            subst hw
            obtain ⟨hP, hK1, hD1⟩ := hB
            rw [ht] at hP
            have hD := hD1.weaken (fun k q _ h => hFc q.1 h)
            clear hFc hk1 hD1 hK1
            generalize H1 = H at hP hS ⊢
            have hP : va_P (dC, dI) clA (wA cI cZ a v (insG (((spS g f t kd ar k).2 9 k) + ((spS g f t kd ar k).2 10 k)) ((spS g f t kd ar k).1) (spS g f t kd ar k).2)) H := hP
            have hD : va_D A (wA cI cZ a v (insG (((spS g f t kd ar k).2 9 k) + ((spS g f t kd ar k).2 10 k)) ((spS g f t kd ar k).1) (spS g f t kd ar k).2)) := hD
            refine lv_iinc (v := nI ((spS g f t kd ar k).1 + 1)) (lv' := [(6, .int (nI ((spS g f t kd ar k).1 + 1))), (7, .int (nI k)), (0, .ref (a 5)), (1, .int pp), (2, .int f), (3, .int t), (4, .int kd), (5, .int ar)]) hx hb dX1_sumAtPlace_60 hl (k := 1) rfl (nI_1 ((spS g f t kd ar k).1)) (by decide) rfl (fun ls hl => ?_)
            refine lv_iinc (v := nI (k + 1)) (lv' := [(7, .int (nI (k + 1))), (6, .int (nI ((spS g f t kd ar k).1 + 1))), (0, .ref (a 5)), (1, .int pp), (2, .int f), (3, .int t), (4, .int kd), (5, .int ar)]) hx hb dX1_sumAtPlace_63 hl (k := 1) rfl (nI_1 k) (by decide) rfl (fun ls hl => ?_)
            refine lv_goto (tgt := 6) hx hb dX1_sumAtPlace_66 (by decide) ?_
            have eG : (spS g f t kd ar (k + 1)).2 = (insG (((spS g f t kd ar k).2 9 k) + ((spS g f t kd ar k).2 10 k)) ((spS g f t kd ar k).1) (spS g f t kd ar k).2) := (by simp [spS, c12, n12, c27, c36])
            have eL0 : (.int (nI (spS g f t kd ar (k + 1)).1) : Value) = .int (nI ((spS g f t kd ar k).1 + 1)) := (by simp [spS, c12, n12, c27, c36])
            exact ih (k + 1) (by omega) (by omega) _ _ (by rw [eG]; exact hP) (by rw [eG]; exact hD) hS ls (by rw [eL0]; exact lv_sub hl [0, 1, 2, 3, 4, 5, 6, 7] rfl)
  exact lp (n + 1) 0 (by omega) (by omega) _ _ hP hD hS ls (lv_sub hl [0, 1, 2, 3, 4, 5, 6, 7] rfl)
end
