section
-- ===== PART A: goes FIRST, ahead of the names: the tables' words, and 'selects' of the private methods out of them =====
/-- a private method of a class that the tables say can be made, by its rows of tables_1 -/
def lw_okq (q : MethodName × Nat) : Prop := (q.1.cls ≠ "java/lang/invoke/MethodHandle" ∧ q.1.cls ≠ "java/lang/invoke/VarHandle") ∧ Cond.instantiable q.1.cls q.2 ∈ tables_1 ∧ Cond.privateMethod q.1 ∈ tables_1 ∧ Cond.instanceMethod q.1 ∈ tables_1
theorem lw_p0 : lw_okq (⟨"java/lang/Throwable", "fillInStackTrace", "(I)Ljava/lang/Throwable;"⟩, 6) := ⟨⟨by decide +kernel, by decide +kernel⟩, List.mem_of_getElem? (i := 150) (by decide +kernel), List.mem_of_getElem? (i := 148) (by decide +kernel), List.mem_of_getElem? (i := 149) (by decide +kernel)⟩
theorem lw_p1 : lw_okq (⟨"Resetline$Diary", "entryOf", "(I)LResetline$Entry;"⟩, 1) := ⟨⟨by decide +kernel, by decide +kernel⟩, List.mem_of_getElem? (i := 37) (by decide +kernel), List.mem_of_getElem? (i := 212) (by decide +kernel), List.mem_of_getElem? (i := 213) (by decide +kernel)⟩
theorem lw_p2 : lw_okq (⟨"java/util/ArrayList", "add", "(Ljava/lang/Object;[Ljava/lang/Object;I)V"⟩, 3) := ⟨⟨by decide +kernel, by decide +kernel⟩, List.mem_of_getElem? (i := 43) (by decide +kernel), List.mem_of_getElem? (i := 269) (by decide +kernel), List.mem_of_getElem? (i := 270) (by decide +kernel)⟩
theorem lw_p3 : lw_okq (⟨"java/util/ArrayList", "grow", "()[Ljava/lang/Object;"⟩, 3) := ⟨⟨by decide +kernel, by decide +kernel⟩, List.mem_of_getElem? (i := 43) (by decide +kernel), List.mem_of_getElem? (i := 273) (by decide +kernel), List.mem_of_getElem? (i := 274) (by decide +kernel)⟩
theorem lw_p4 : lw_okq (⟨"java/util/ArrayList", "grow", "(I)[Ljava/lang/Object;"⟩, 3) := ⟨⟨by decide +kernel, by decide +kernel⟩, List.mem_of_getElem? (i := 43) (by decide +kernel), List.mem_of_getElem? (i := 277) (by decide +kernel), List.mem_of_getElem? (i := 278) (by decide +kernel)⟩
theorem lw_p5 : lw_okq (⟨"Resetline", "rollAllTrades", "()V"⟩, 3) := ⟨⟨by decide +kernel, by decide +kernel⟩, List.mem_of_getElem? (i := 23) (by decide +kernel), List.mem_of_getElem? (i := 322) (by decide +kernel), List.mem_of_getElem? (i := 323) (by decide +kernel)⟩
theorem lw_p6 : lw_okq (⟨"Resetline", "swapAt", "(I)LResetline$Swap;"⟩, 3) := ⟨⟨by decide +kernel, by decide +kernel⟩, List.mem_of_getElem? (i := 23) (by decide +kernel), List.mem_of_getElem? (i := 458) (by decide +kernel), List.mem_of_getElem? (i := 459) (by decide +kernel)⟩
theorem lw_p7 : lw_okq (⟨"Resetline", "swapWithPeriod", "(II)LResetline$Swap;"⟩, 3) := ⟨⟨by decide +kernel, by decide +kernel⟩, List.mem_of_getElem? (i := 23) (by decide +kernel), List.mem_of_getElem? (i := 528) (by decide +kernel), List.mem_of_getElem? (i := 529) (by decide +kernel)⟩
theorem lw_p8 : lw_okq (⟨"Resetline$Swap", "rateOf", "(ILResetline$Diary;)J"⟩, 13) := ⟨⟨by decide +kernel, by decide +kernel⟩, List.mem_of_getElem? (i := 395) (by decide +kernel), List.mem_of_getElem? (i := 564) (by decide +kernel), List.mem_of_getElem? (i := 565) (by decide +kernel)⟩
theorem lw_p9 : lw_okq (⟨"Resetline$Swap", "daysOf", "(I)J"⟩, 13) := ⟨⟨by decide +kernel, by decide +kernel⟩, List.mem_of_getElem? (i := 395) (by decide +kernel), List.mem_of_getElem? (i := 568) (by decide +kernel), List.mem_of_getElem? (i := 569) (by decide +kernel)⟩
theorem lw_p10 : lw_okq (⟨"Resetline", "cashOnDay", "(II)J"⟩, 3) := ⟨⟨by decide +kernel, by decide +kernel⟩, List.mem_of_getElem? (i := 23) (by decide +kernel), List.mem_of_getElem? (i := 603) (by decide +kernel), List.mem_of_getElem? (i := 604) (by decide +kernel)⟩
theorem lw_p11 : lw_okq (⟨"ResetlineModel", "opens", "(I)Z"⟩, 24) := ⟨⟨by decide +kernel, by decide +kernel⟩, List.mem_of_getElem? (i := 640) (by decide +kernel), List.mem_of_getElem? (i := 738) (by decide +kernel), List.mem_of_getElem? (i := 739) (by decide +kernel)⟩
theorem lw_p12 : lw_okq (⟨"ResetlineModel", "rolled", "(I)I"⟩, 24) := ⟨⟨by decide +kernel, by decide +kernel⟩, List.mem_of_getElem? (i := 640) (by decide +kernel), List.mem_of_getElem? (i := 746) (by decide +kernel), List.mem_of_getElem? (i := 747) (by decide +kernel)⟩
theorem lw_p13 : lw_okq (⟨"ResetlineModel", "fails", "(I)I"⟩, 24) := ⟨⟨by decide +kernel, by decide +kernel⟩, List.mem_of_getElem? (i := 640) (by decide +kernel), List.mem_of_getElem? (i := 750) (by decide +kernel), List.mem_of_getElem? (i := 751) (by decide +kernel)⟩
theorem lw_p14 : lw_okq (⟨"ResetlineModel", "rate", "(I)I"⟩, 24) := ⟨⟨by decide +kernel, by decide +kernel⟩, List.mem_of_getElem? (i := 640) (by decide +kernel), List.mem_of_getElem? (i := 762) (by decide +kernel), List.mem_of_getElem? (i := 763) (by decide +kernel)⟩
theorem lw_p15 : lw_okq (⟨"ResetlineModel", "isTrade", "(I)Z"⟩, 24) := ⟨⟨by decide +kernel, by decide +kernel⟩, List.mem_of_getElem? (i := 640) (by decide +kernel), List.mem_of_getElem? (i := 777) (by decide +kernel), List.mem_of_getElem? (i := 778) (by decide +kernel)⟩
def lw_privs_1 : List (MethodName × Nat) := [(⟨"java/lang/Throwable", "fillInStackTrace", "(I)Ljava/lang/Throwable;"⟩, 6), (⟨"Resetline$Diary", "entryOf", "(I)LResetline$Entry;"⟩, 1), (⟨"java/util/ArrayList", "add", "(Ljava/lang/Object;[Ljava/lang/Object;I)V"⟩, 3), (⟨"java/util/ArrayList", "grow", "()[Ljava/lang/Object;"⟩, 3), (⟨"java/util/ArrayList", "grow", "(I)[Ljava/lang/Object;"⟩, 3), (⟨"Resetline", "rollAllTrades", "()V"⟩, 3), (⟨"Resetline", "swapAt", "(I)LResetline$Swap;"⟩, 3), (⟨"Resetline", "swapWithPeriod", "(II)LResetline$Swap;"⟩, 3), (⟨"Resetline$Swap", "rateOf", "(ILResetline$Diary;)J"⟩, 13), (⟨"Resetline$Swap", "daysOf", "(I)J"⟩, 13), (⟨"Resetline", "cashOnDay", "(II)J"⟩, 3), (⟨"ResetlineModel", "opens", "(I)Z"⟩, 24), (⟨"ResetlineModel", "rolled", "(I)I"⟩, 24), (⟨"ResetlineModel", "fails", "(I)I"⟩, 24), (⟨"ResetlineModel", "rate", "(I)I"⟩, 24), (⟨"ResetlineModel", "isTrade", "(I)Z"⟩, 24)]
theorem lw_r1 : ∀ q ∈ lw_privs_1, lw_okq q := List.forall_mem_cons.mpr ⟨lw_p0, List.forall_mem_cons.mpr ⟨lw_p1, List.forall_mem_cons.mpr ⟨lw_p2, List.forall_mem_cons.mpr ⟨lw_p3, List.forall_mem_cons.mpr ⟨lw_p4, List.forall_mem_cons.mpr ⟨lw_p5, List.forall_mem_cons.mpr ⟨lw_p6, List.forall_mem_cons.mpr ⟨lw_p7, List.forall_mem_cons.mpr ⟨lw_p8, List.forall_mem_cons.mpr ⟨lw_p9, List.forall_mem_cons.mpr ⟨lw_p10, List.forall_mem_cons.mpr ⟨lw_p11, List.forall_mem_cons.mpr ⟨lw_p12, List.forall_mem_cons.mpr ⟨lw_p13, List.forall_mem_cons.mpr ⟨lw_p14, List.forall_mem_cons.mpr ⟨lw_p15, fun _ h => absurd h List.not_mem_nil⟩⟩⟩⟩⟩⟩⟩⟩⟩⟩⟩⟩⟩⟩⟩⟩
theorem lw_p16 : lw_okq (⟨"ResetlineModel", "countBreaks", "(I)I"⟩, 24) := ⟨⟨by decide +kernel, by decide +kernel⟩, List.mem_of_getElem? (i := 640) (by decide +kernel), List.mem_of_getElem? (i := 781) (by decide +kernel), List.mem_of_getElem? (i := 782) (by decide +kernel)⟩
theorem lw_p17 : lw_okq (⟨"ResetlineModel", "rest", "(I)I"⟩, 24) := ⟨⟨by decide +kernel, by decide +kernel⟩, List.mem_of_getElem? (i := 640) (by decide +kernel), List.mem_of_getElem? (i := 789) (by decide +kernel), List.mem_of_getElem? (i := 790) (by decide +kernel)⟩
theorem lw_p18 : lw_okq (⟨"ResetlineModel", "broken", "(II)I"⟩, 24) := ⟨⟨by decide +kernel, by decide +kernel⟩, List.mem_of_getElem? (i := 640) (by decide +kernel), List.mem_of_getElem? (i := 793) (by decide +kernel), List.mem_of_getElem? (i := 794) (by decide +kernel)⟩
theorem lw_p19 : lw_okq (⟨"ResetlineModel", "breaks", "(III)V"⟩, 24) := ⟨⟨by decide +kernel, by decide +kernel⟩, List.mem_of_getElem? (i := 640) (by decide +kernel), List.mem_of_getElem? (i := 797) (by decide +kernel), List.mem_of_getElem? (i := 798) (by decide +kernel)⟩
theorem lw_p20 : lw_okq (⟨"ResetlineModel", "party", "(II)I"⟩, 24) := ⟨⟨by decide +kernel, by decide +kernel⟩, List.mem_of_getElem? (i := 640) (by decide +kernel), List.mem_of_getElem? (i := 805) (by decide +kernel), List.mem_of_getElem? (i := 806) (by decide +kernel)⟩
theorem lw_p21 : lw_okq (⟨"ResetlineModel", "areLike", "(II)Z"⟩, 24) := ⟨⟨by decide +kernel, by decide +kernel⟩, List.mem_of_getElem? (i := 640) (by decide +kernel), List.mem_of_getElem? (i := 813) (by decide +kernel), List.mem_of_getElem? (i := 814) (by decide +kernel)⟩
theorem lw_p22 : lw_okq (⟨"ResetlineModel", "haveOneParty", "(III)Z"⟩, 24) := ⟨⟨by decide +kernel, by decide +kernel⟩, List.mem_of_getElem? (i := 640) (by decide +kernel), List.mem_of_getElem? (i := 817) (by decide +kernel), List.mem_of_getElem? (i := 818) (by decide +kernel)⟩
theorem lw_p23 : lw_okq (⟨"ResetlineModel", "begins", "(II)I"⟩, 24) := ⟨⟨by decide +kernel, by decide +kernel⟩, List.mem_of_getElem? (i := 640) (by decide +kernel), List.mem_of_getElem? (i := 821) (by decide +kernel), List.mem_of_getElem? (i := 822) (by decide +kernel)⟩
theorem lw_p24 : lw_okq (⟨"ResetlineModel", "isPeriod", "(II)Z"⟩, 24) := ⟨⟨by decide +kernel, by decide +kernel⟩, List.mem_of_getElem? (i := 640) (by decide +kernel), List.mem_of_getElem? (i := 833) (by decide +kernel), List.mem_of_getElem? (i := 834) (by decide +kernel)⟩
theorem lw_p25 : lw_okq (⟨"ResetlineModel", "lotsOf", "(II)I"⟩, 24) := ⟨⟨by decide +kernel, by decide +kernel⟩, List.mem_of_getElem? (i := 640) (by decide +kernel), List.mem_of_getElem? (i := 845) (by decide +kernel), List.mem_of_getElem? (i := 846) (by decide +kernel)⟩
theorem lw_p26 : lw_okq (⟨"ResetlineModel", "floats", "(II)J"⟩, 24) := ⟨⟨by decide +kernel, by decide +kernel⟩, List.mem_of_getElem? (i := 640) (by decide +kernel), List.mem_of_getElem? (i := 853) (by decide +kernel), List.mem_of_getElem? (i := 854) (by decide +kernel)⟩
theorem lw_p27 : lw_okq (⟨"ResetlineModel", "days", "(II)I"⟩, 24) := ⟨⟨by decide +kernel, by decide +kernel⟩, List.mem_of_getElem? (i := 640) (by decide +kernel), List.mem_of_getElem? (i := 857) (by decide +kernel), List.mem_of_getElem? (i := 858) (by decide +kernel)⟩
theorem lw_p28 : lw_okq (⟨"ResetlineModel", "flowOf", "(II)J"⟩, 24) := ⟨⟨by decide +kernel, by decide +kernel⟩, List.mem_of_getElem? (i := 640) (by decide +kernel), List.mem_of_getElem? (i := 869) (by decide +kernel), List.mem_of_getElem? (i := 870) (by decide +kernel)⟩
theorem lw_p29 : lw_okq (⟨"ResetlineModel", "sum", "(III)J"⟩, 24) := ⟨⟨by decide +kernel, by decide +kernel⟩, List.mem_of_getElem? (i := 640) (by decide +kernel), List.mem_of_getElem? (i := 881) (by decide +kernel), List.mem_of_getElem? (i := 882) (by decide +kernel)⟩
theorem lw_p30 : lw_okq (⟨"ResetlineModel", "barsDays", "(III)I"⟩, 24) := ⟨⟨by decide +kernel, by decide +kernel⟩, List.mem_of_getElem? (i := 640) (by decide +kernel), List.mem_of_getElem? (i := 889) (by decide +kernel), List.mem_of_getElem? (i := 890) (by decide +kernel)⟩
def lw_privs_2 : List (MethodName × Nat) := [(⟨"ResetlineModel", "countBreaks", "(I)I"⟩, 24), (⟨"ResetlineModel", "rest", "(I)I"⟩, 24), (⟨"ResetlineModel", "broken", "(II)I"⟩, 24), (⟨"ResetlineModel", "breaks", "(III)V"⟩, 24), (⟨"ResetlineModel", "party", "(II)I"⟩, 24), (⟨"ResetlineModel", "areLike", "(II)Z"⟩, 24), (⟨"ResetlineModel", "haveOneParty", "(III)Z"⟩, 24), (⟨"ResetlineModel", "begins", "(II)I"⟩, 24), (⟨"ResetlineModel", "isPeriod", "(II)Z"⟩, 24), (⟨"ResetlineModel", "lotsOf", "(II)I"⟩, 24), (⟨"ResetlineModel", "floats", "(II)J"⟩, 24), (⟨"ResetlineModel", "days", "(II)I"⟩, 24), (⟨"ResetlineModel", "flowOf", "(II)J"⟩, 24), (⟨"ResetlineModel", "sum", "(III)J"⟩, 24), (⟨"ResetlineModel", "barsDays", "(III)I"⟩, 24)]
theorem lw_r2 : ∀ q ∈ lw_privs_2, lw_okq q := List.forall_mem_cons.mpr ⟨lw_p16, List.forall_mem_cons.mpr ⟨lw_p17, List.forall_mem_cons.mpr ⟨lw_p18, List.forall_mem_cons.mpr ⟨lw_p19, List.forall_mem_cons.mpr ⟨lw_p20, List.forall_mem_cons.mpr ⟨lw_p21, List.forall_mem_cons.mpr ⟨lw_p22, List.forall_mem_cons.mpr ⟨lw_p23, List.forall_mem_cons.mpr ⟨lw_p24, List.forall_mem_cons.mpr ⟨lw_p25, List.forall_mem_cons.mpr ⟨lw_p26, List.forall_mem_cons.mpr ⟨lw_p27, List.forall_mem_cons.mpr ⟨lw_p28, List.forall_mem_cons.mpr ⟨lw_p29, List.forall_mem_cons.mpr ⟨lw_p30, fun _ h => absurd h List.not_mem_nil⟩⟩⟩⟩⟩⟩⟩⟩⟩⟩⟩⟩⟩⟩⟩
def lw_privs : List (MethodName × Nat) := lw_privs_1 ++ (lw_privs_2)
def lw_tbl : List Cond := k2_sels lw_privs ++ tables_1
theorem lw_privs_ok : ∀ q ∈ lw_privs, lw_okq q := by
  show ∀ q ∈ lw_privs_1 ++ (lw_privs_2), lw_okq q
  exact List.forall_mem_append.mpr ⟨lw_r1, lw_r2⟩
end
section
/-! ===== BEGIN words of one list among another's, by their places ===== -/
theorem goodIn_r {big : List Cond} (ws : List Cond) (ps : List Nat) (hp : ws = ps.filterMap (fun i => big[i]?)) (h : ws.all goodWord = true) : GoodIn big ws := by
  intro w hw
  have h1 := List.all_eq_true.mp h w hw
  rw [hp] at hw
  obtain ⟨i, -, hi⟩ := List.mem_filterMap.mp hw
  have hm : w ∈ big := by first | exact List.mem_of_getElem? hi | exact List.getElem?_mem hi
  exact ⟨hm, good_of_word h1⟩
theorem goodIn_app {big a b : List Cond} (ha : GoodIn big a) (hb : GoodIn big b) : GoodIn big (a ++ b) := fun w h => (List.mem_append.mp h).elim (ha w) (hb w)
theorem goodIn_ca {big a b : List Cond} {c : Cond} (ha : GoodIn big (c :: a)) (hb : GoodIn big b) : GoodIn big (c :: (a ++ b)) := fun w h => (List.mem_cons.mp h).elim (fun e => ha w (List.mem_cons.mpr (Or.inl e))) (fun h => (List.mem_append.mp h).elim (fun h => ha w (List.mem_cons.mpr (Or.inr h))) (hb w))
theorem goodIn_sub {big ws : List Cond} (hm : ∀ w ∈ ws, w ∈ big) (h : ws.all goodWord = true) : GoodIn big ws := fun w hw => ⟨hm w hw, good_of_word (List.all_eq_true.mp h w hw)⟩
/-! ===== END ===== -/

/-! ===== BEGIN exceptions that leave a method, and their catching by the caller (launches without stack traces) ===== -/
section VXA
/-! The laws vx_back, vx_callV, vx_callS, vx_callSW, vx_throw0, vx_throwS follow proofs of the library, with one case more: JvmDerived/Free/Laws.lean (Back.of_free), Shelf42/LK1.lean (callV, callS), Shelf/KitTraced.lean (throwNew0V, throwNewS). -/
/-- where a method has thrown q: the class by its name, the cell, what was written, the world -/
def vx_T (XC : String → State → State → Prop) (st : State) (q : Addr) (t : State) (mc ms : Nat) (free : Addr → Prop) : Prop :=
  ∃ (E : String) (ce : Cell) (L : List Loc), XC E st t ∧ t.heap[q]? = some ce ∧ ce.vm = .none ∧ st.vm.findClass E = some ce.cls ∧ st.WarmedH t.vm ∧ st.sameButNew ({ t with vm := st.vm } : State) L mc ms ∧ ∀ z ∈ L, free z.base
def vx_Q (Qc : Array Value → State → Outcome → State → Prop) (XC : String → State → State → Prop) (mc ms : Nat) (free : Addr → Prop) : Array Value → State → Outcome → State → Prop := fun a st o t =>
  (Qc a st o t ∧ ∃ L, FrameEnd st o t L mc ms ∧ ∀ q ∈ L, free q.base) ∨ ∃ q, o = .threw q ∧ vx_T XC st q t mc ms free
/-- a callee that returns or throws -/
def vx_Met (l : Launch) (y : MethodName) (ws : List Cond) (rm : Room) (Pc : Array Value → State → Prop) (Qc : Array Value → State → Outcome → State → Prop) (XC : String → State → State → Prop) (mc ms : Nat) (free : Addr → Prop) : Prop :=
  MetFree l y (headSpec ws rm) Pc (fun _ _ _ _ _ => True) (vx_Q Qc XC mc ms free)
def vx_Post (XC : String → State → State → Prop) (mc ms : Nat) (free : Addr → Prop) : Pt → Array Value → Addr → Pt → Prop := fun A a q B =>
  ∃ (g : JFrame) (mk : MethodId) (t : State) (L : List Loc) (E : String) (ce : Cell), B.U.heap = t.heap ∧ B.U.vm = t.vm ∧ XC E (A.U.calling g mk a) t ∧ t.heap[q]? = some ce ∧ ce.vm = .none ∧ A.U.vm.findClass E = some ce.cls ∧ B.locs = A.locs ++ L ∧ (∀ z ∈ L, free z.base) ∧ B.cells = A.cells + mc ∧ B.slots = A.slots + ms
def vx_Back (l : Launch) (R : Room) (p : Program) (e : Env) (below : List Frame) (s : State) (sargs : Array Value) (y : MethodName) (len W9 : Nat)
    (Pre : Pt → Array Value → Prop) (Post : Pt → Array Value → Option Value → Pt → Prop) (PostX : Pt → Array Value → Addr → Pt → Prop) : Prop :=
  ∀ (m : MethodId) (meth : Method) (c : Code) (A : Pt) (g : JFrame) (ig : Instr) (mk : MethodId) (a : Array Value),
    Stand p l e R s m sargs below meth c A.U A.locs A.cells A.slots → g.method = m → g.locals.size = c.maxLocals → decode c.code g.pc = .ok (ig, len) →
    2 * g.monitorRoom + (g.stack.map fun v => v.category).sum ≤ W9 → A.U.methodNamed? y = some mk → Pre A a →
    (∃ (v : Option Value) (B : Pt), Stand p l e R s m sargs below meth c B.U B.locs B.cells B.slots ∧ Post A a v B ∧
      Steps p.tables e below (doInvoke e (A.U.setTop g) [] mk a).1 (B.U.setTop { g with pc := g.pc + len, stack := v.toList ++ g.stack })) ∨
    (∃ (q : Addr) (B : Pt), Stand p l e R s m sargs below meth c B.U B.locs B.cells B.slots ∧ PostX A a q B ∧
      Steps p.tables e below (doInvoke e (A.U.setTop g) [] mk a).1 ((B.U.setTop g).pushFrame (.throwing q)))
section Payer
variable {l : Launch} {R : Room} {p : Program} {e : Env} {below : List Frame} {s : State} {sargs : Array Value} {y : MethodName} {len W9 : Nat}
theorem vx_back {ws : List Cond} {rm : Room} {Pc : Array Value → State → Prop} {Qc : Array Value → State → Outcome → State → Prop} {XC : String → State → State → Prop} {mc ms : Nat} {free : Addr → Prop} {bytes : ByteArray} {maxL : Nat} {ret : Option FieldType}
    (hM : vx_Met l y ws rm Pc Qc XC mc ms free) (hblind : FrameBlind Pc) (hrc : rm.cells = mc) (hrs : rm.slots = ms)
    (hframes : rm.frames + 1 ≤ R.frames) (hlocals : W9 + (maxL + 11) + rm.locals ≤ R.locals)
    (hws : ∀ w ∈ ws, ∀ a' U, s.WarmedH U.vm → w.before a' U = true) (hcode : Cond.code y bytes maxL ret ∈ ws) (hinit : ∀ a' U, s.WarmedH U.vm → (Cond.initialized y.cls).before a' U = true) :
    vx_Back l R p e below s sargs y len W9 (PreOf R mc ms Pc) (PostOf Qc mc ms free) (vx_Post XC mc ms free) := by
  intro m meth c A g ig mk a X hg hsize hdg hW hn hp
  have h1 : (headSpec ws rm).pre.before a A.U = true := atoms_intro fun w hw => hws w hw _ _ X.warmed
  have h2 : (Cond.code y bytes maxL ret).before a A.U = true := hws _ hcode _ _ X.warmed
  have h3 : (Cond.initialized y.cls).before a A.U = true := hinit _ _ X.warmed
  have h4 : A.cells + (headSpec ws rm).room.cells ≤ R.cells := by rw [show (headSpec ws rm).room.cells = mc from hrc]; exact hp.1
  have h5 : A.slots + (headSpec ws rm).room.slots ≤ R.slots := by rw [show (headSpec ws rm).room.slots = ms from hrs]; exact hp.2.1
  have hPc : Pc a (A.U.calling g mk a) := hblind _ _ _ _ hp.2.2
  obtain ⟨U, Ls, c0, s0⟩ := A
  dsimp only [Pt.U, Pt.locs, Pt.cells, Pt.slots] at h1 h2 h3 h4 h5 X hn hPc ⊢
  obtain ⟨methY, cY, hmY, hcY, -, hlY, -, -, -, -⟩ := Cond.code_spec hn h2
  obtain ⟨kY, hkY, -⟩ := className_of_methodNamed hn
  have hinitY : kY.init = .initialized := Cond.initialized_spec (findClass_of_methodNamed hn) hkY h3
  have h : At U g.method c below := by rw [hg]; exact X.here
  have hlocals9 : W9 + (maxL + 11) + (headSpec ws rm).room.locals ≤ R.locals := hlocals
  have happ : (headSpec ws rm).appliesLoose y e.platform (U.calling g mk a) = true :=
    Spec.appliesLoose_calling (g := g) h hdg hn hkY hinitY
      (X.room_calling (g := g) (R' := (headSpec ws rm).room) hsize hmY hcY hframes (by rw [hlY]; omega) h4 h5) h1
  obtain ⟨mid, hmid⟩ := h.above
  have hfr : (U.setTop g).frames = (.java g :: mid) ++ below := by rw [State.frames_setTop' g h.top, hmid]; rfl
  obtain ⟨o, s₂, hsteps, -, hend, hq⟩ := Steps.callFree hM p X.admits X.cas X.clock (acts := []) hfr happ hPc trivial
  have hq' : vx_Q Qc XC mc ms free a (U.calling g mk a) o s₂ := hq
  rw [State.frames_setTop' g h.top] at hend
  obtain ⟨g₀, hg0⟩ := Option.isSome_iff_exists.mp h.top
  obtain ⟨r, hr⟩ := State.topJava?_eq_some.mp hg0
  have hr' : (({ U with heap := s₂.heap, slotsUsed := s₂.slotsUsed } : State).setVm s₂.vm).frames = .java g₀ :: r := hr
  rcases hq' with ⟨hqc, L, hfe, hL⟩ | ⟨q, rfl, E, ce, L, hx, hce, hcv, hcl, hW₂, hsm, hL⟩
  · obtain ⟨⟨v, rfl⟩, hW₂, e2, q2, q3, q4, q5, q6⟩ := id hfe
    have e3 : s₂ = ({ (U.calling g mk a).setFrames s₂.frames with heap := s₂.heap, slotsUsed := s₂.slotsUsed } : State).setVm s₂.vm := by
      have : s₂ = ({ s₂ with vm := (U.calling g mk a).vm } : State).setVm s₂.vm := rfl
      rw [e2] at this
      exact this
    obtain ⟨c₂, i₂, len₂, hc₂, hd₂, hf₂⟩ := hend
    have hW' : U.WarmedH s₂.vm := hW₂
    have hcc : c₂ = c := by
      have h1 : s₂.code? g.method = U.code? g.method := by
        rw [State.code?_eq, State.code?_eq, hW'.alike.method?]
      exact Option.some.inj (hc₂.symm.trans (h1.trans h.code))
    subst hcc
    have hlen : len₂ = len := by rw [hdg] at hd₂; cases hd₂; rfl
    subst hlen
    have hs₂ : s₂ = (({ U with heap := s₂.heap, slotsUsed := s₂.slotsUsed } : State).setVm s₂.vm).setTop { g with pc := g.pc + len₂, stack := v.toList ++ g.stack } := by
      refine e3.trans ?_
      rw [hf₂, State.calling_eq h.top, State.setFrames_setFrames, State.setTop_of_frames _ hr', hr]
      rfl
    have hsame : U.sameButNew ({ U with heap := s₂.heap, slotsUsed := s₂.slotsUsed } : State) L mc ms := by
      refine ⟨?_, q2, q3, q4, q5, q6⟩
      obtain ⟨t, ht, -⟩ := State.frames_cons hr
      show ({ U with heap := s₂.heap, slotsUsed := s₂.slotsUsed } : State) = { U.setFrames U.frames with heap := s₂.heap, slotsUsed := s₂.slotsUsed }
      rw [State.setFrames_self ht]
    subst hg
    refine Or.inl ⟨v, ⟨(({ U with heap := s₂.heap, slotsUsed := s₂.slotsUsed } : State).setVm s₂.vm), Ls ++ L, c0 + mc, s0 + ms⟩,
      ⟨X.admits, X.cas, X.clock, X.frames, X.room, X.hears, X.method, X.code, (X.here.setHeapUsed s₂.heap s₂.slotsUsed).setVm hW'.alike, X.tail, State.WarmedH.trans X.warmed hW', X.limits, X.bytes, X.same.trans (hsame.setVm s.vm)⟩,
      ⟨g, mk, s₂, L, rfl, rfl, hqc, rfl, hL, rfl, rfl⟩, ?_⟩
    show Steps p.tables e below _ ((({ U with heap := s₂.heap, slotsUsed := s₂.slotsUsed } : State).setVm s₂.vm).setTop { g with pc := g.pc + len₂, stack := v.toList ++ g.stack })
    rw [← hs₂]
    exact hsteps
  · obtain ⟨e2, q2, q3, q4, q5, q6⟩ := id hsm
    have e3 : s₂ = ({ (U.calling g mk a).setFrames s₂.frames with heap := s₂.heap, slotsUsed := s₂.slotsUsed } : State).setVm s₂.vm := by
      have : s₂ = ({ s₂ with vm := (U.calling g mk a).vm } : State).setVm s₂.vm := rfl
      rw [e2] at this
      exact this
    have hf₂ : s₂.frames = .throwing q :: .java g :: U.frames.tail := hend
    have hW' : U.WarmedH s₂.vm := hW₂
    have hs₂ : s₂ = ((({ U with heap := s₂.heap, slotsUsed := s₂.slotsUsed } : State).setVm s₂.vm).setTop g).pushFrame (.throwing q) := by
      refine e3.trans ?_
      rw [hf₂, State.calling_eq h.top, State.setFrames_setFrames, State.pushFrame, State.frames_setTop _ hr', State.setTop_of_frames _ hr', State.setFrames_setFrames, hr]
      rfl
    have hsame : U.sameButNew ({ U with heap := s₂.heap, slotsUsed := s₂.slotsUsed } : State) L mc ms := by
      refine ⟨?_, q2, q3, q4, q5, q6⟩
      obtain ⟨t, ht, -⟩ := State.frames_cons hr
      show ({ U with heap := s₂.heap, slotsUsed := s₂.slotsUsed } : State) = { U.setFrames U.frames with heap := s₂.heap, slotsUsed := s₂.slotsUsed }
      rw [State.setFrames_self ht]
    subst hg
    refine Or.inr ⟨q, ⟨(({ U with heap := s₂.heap, slotsUsed := s₂.slotsUsed } : State).setVm s₂.vm), Ls ++ L, c0 + mc, s0 + ms⟩,
      ⟨X.admits, X.cas, X.clock, X.frames, X.room, X.hears, X.method, X.code, (X.here.setHeapUsed s₂.heap s₂.slotsUsed).setVm hW'.alike, X.tail, State.WarmedH.trans X.warmed hW', X.limits, X.bytes, X.same.trans (hsame.setVm s.vm)⟩,
      ⟨g, mk, s₂, L, E, ce, rfl, rfl, hx, hce, hcv, hcl, rfl, hL, rfl, rfl⟩, ?_⟩
    show Steps p.tables e below _ (((({ U with heap := s₂.heap, slotsUsed := s₂.slotsUsed } : State).setVm s₂.vm).setTop g).pushFrame (.throwing q))
    rw [← hs₂]
    exact hsteps
end Payer
section Calls
variable {p : Program} {l : Launch} {e : Env} {R : Room} {s : State} {m : MethodId} {args : Array Value} {below : List Frame} {meth : Method} {c : Code} {T : State} {locs : List Loc} {cells slots : Nat}
theorem vx_callV (X : Stand p l e R s m args below meth c T locs cells slots) (hexec : p.tables.exec = Jvm.exec) {own C : String} {index : Nat} {y : MethodName} {bytes : ByteArray} {maxL : Nat} {ret : Option FieldType}
    (hown : s.vm.findClass own = some m.cls) (hlink : (Cond.methodLink own index y).before args s = true) (hinst : (Cond.instanceMethod y).before args s = true) (hsel : (Cond.selects C y y).before args s = true)
    (hcode : (Cond.code y bytes maxL ret).before args s = true) (hy : y.cls ≠ "java/lang/invoke/MethodHandle" ∧ y.cls ≠ "java/lang/invoke/VarHandle")
    {W9 : Nat} {Pre : Pt → Array Value → Prop} {Post : Pt → Array Value → Option Value → Pt → Prop} {PostX : Pt → Array Value → Addr → Pt → Prop} (hK : vx_Back l R p e below s args y 3 W9 Pre Post PostX)
    {b : Addr} {cellB : Cell} (hcell : T.heap[b]? = some cellB) (hobj : cellB.vm.isStatics = false) (hcls : s.vm.findClass C = some cellB.cls)
    {g : JFrame} (hg : g.method = m) (hsize : g.locals.size = c.maxLocals) {argsL rest : List Value} (hlen : ∀ sig, parseMethodDescriptor y.desc = some sig → argsL.length = sig.parameters.length)
    (hstack : g.stack = argsL.reverse ++ .ref b :: rest) (hW : 2 * g.monitorRoom + (rest.map fun v => v.category).sum ≤ W9) (hdg : decode c.code g.pc = .ok (.invokevirtual index, 3))
    (hpre : ∀ vm₁, s.WarmedH vm₁ → Pre ⟨T.setVm vm₁, locs, cells, slots⟩ (Value.ref b :: argsL).toArray) :
    (∃ (v : Option Value) (vm₁ : Vm) (B : Pt), s.WarmedH vm₁ ∧ Stand p l e R s m args below meth c B.U B.locs B.cells B.slots ∧ Post ⟨T.setVm vm₁, locs, cells, slots⟩ (Value.ref b :: argsL).toArray v B ∧
      ∀ target, Steps p.tables e below (B.U.setTop { g with pc := g.pc + 3, stack := v.toList ++ rest }) target → Steps p.tables e below (T.setTop g) target) ∨
    (∃ (q : Addr) (vm₁ : Vm) (B : Pt), s.WarmedH vm₁ ∧ Stand p l e R s m args below meth c B.U B.locs B.cells B.slots ∧ PostX ⟨T.setVm vm₁, locs, cells, slots⟩ (Value.ref b :: argsL).toArray q B ∧
      Steps p.tables e below (T.setTop g) ((B.U.setTop { g with stack := rest }).pushFrame (.throwing q))) := by
  obtain ⟨mk, methM, hnamed, hmethM, hstM, habM⟩ := Cond.instanceMethod_spec hinst
  obtain ⟨methM', cM, hmethM', -, -, -, -, -, -, hsigM⟩ := Cond.code_spec hnamed hcode
  cases hmethM.symm.trans hmethM'
  obtain ⟨c2, r2, m2, q1, q2, q3, q4, kP, hkP, hkPi⟩ := Cond.selects_spec hsel
  cases hcls.symm.trans q1
  cases (State.methodFound?_of_named hnamed hy).symm.trans q2
  cases hnamed.symm.trans q3
  have hselP : selectMethod e.platform s.vm cellB.cls mk = .method mk := by rw [Launch.admits_selectMethod X.admits]; exact q4
  obtain ⟨vm₁, X₁, hstep₁⟩ := X.invokevirtual hexec hown hlink hnamed hmethM hstM hkP hkPi hy (a := b) (cell := cellB) hcell
    (fun z h => by rw [h] at hobj; cases hobj) hselP hmethM habM hkP hkPi (g := g) hg (argsL := argsL) (rest := rest) (hlen _ hsigM) hstack hdg
  rcases hK m meth c ⟨T.setVm vm₁, locs, cells, slots⟩ { g with stack := rest } (.invokevirtual index) mk (Value.ref b :: argsL).toArray X₁ hg hsize hdg hW (X₁.named hnamed) (hpre vm₁ X₁.warmed) with ⟨v, B, X', hpost, hsteps⟩ | ⟨q, B, X', hpost, hsteps⟩
  · exact Or.inl ⟨v, vm₁, B, X₁.warmed, X', hpost, fun target h => hstep₁ _ fun acts => by rw [doInvoke_state]; exact hsteps.trans h⟩
  · exact Or.inr ⟨q, vm₁, B, X₁.warmed, X', hpost, hstep₁ _ fun acts => by rw [doInvoke_state]; exact hsteps⟩
theorem vx_callS (X : Stand p l e R s m args below meth c T locs cells slots) (hexec : p.tables.exec = Jvm.exec) {own : String} {index : Nat} {y : MethodName} {bytes : ByteArray} {maxL : Nat} {ret : Option FieldType}
    (hown : s.vm.findClass own = some m.cls) (hlink : (Cond.methodLink own index y).before args s = true) (hstat : (Cond.static y).before args s = true) (hinit : (Cond.initialized y.cls).before args s = true)
    (hcode : (Cond.code y bytes maxL ret).before args s = true) (hy : y.cls ≠ "java/lang/invoke/MethodHandle" ∧ y.cls ≠ "java/lang/invoke/VarHandle")
    {W9 : Nat} {Pre : Pt → Array Value → Prop} {Post : Pt → Array Value → Option Value → Pt → Prop} {PostX : Pt → Array Value → Addr → Pt → Prop} (hK : vx_Back l R p e below s args y 3 W9 Pre Post PostX)
    {g : JFrame} (hg : g.method = m) (hsize : g.locals.size = c.maxLocals) {argsL rest : List Value} (hlen : ∀ sig, parseMethodDescriptor y.desc = some sig → argsL.length = sig.parameters.length)
    (hstack : g.stack = argsL.reverse ++ rest) (hW : 2 * g.monitorRoom + (rest.map fun v => v.category).sum ≤ W9) (hdg : decode c.code g.pc = .ok (.invokestatic index, 3))
    (hpre : ∀ vm₁, s.WarmedH vm₁ → Pre ⟨T.setVm vm₁, locs, cells, slots⟩ argsL.toArray) :
    (∃ (v : Option Value) (vm₁ : Vm) (B : Pt), s.WarmedH vm₁ ∧ Stand p l e R s m args below meth c B.U B.locs B.cells B.slots ∧ Post ⟨T.setVm vm₁, locs, cells, slots⟩ argsL.toArray v B ∧
      ∀ target, Steps p.tables e below (B.U.setTop { g with pc := g.pc + 3, stack := v.toList ++ rest }) target → Steps p.tables e below (T.setTop g) target) ∨
    (∃ (q : Addr) (vm₁ : Vm) (B : Pt), s.WarmedH vm₁ ∧ Stand p l e R s m args below meth c B.U B.locs B.cells B.slots ∧ PostX ⟨T.setVm vm₁, locs, cells, slots⟩ argsL.toArray q B ∧
      Steps p.tables e below (T.setTop g) ((B.U.setTop { g with stack := rest }).pushFrame (.throwing q))) := by
  obtain ⟨mk, hnamed⟩ := Cond.code_named hcode
  obtain ⟨methM, cM, hmethM, -, -, -, -, -, -, hsigM⟩ := Cond.code_spec hnamed hcode
  have hstatic : methM.isStatic = true := Cond.static_spec hnamed hmethM hstat
  obtain ⟨kP, hkP, -⟩ := className_of_methodNamed hnamed
  have hinitP : kP.init = .initialized := Cond.initialized_spec (findClass_of_methodNamed hnamed) hkP hinit
  obtain ⟨vm₁, X₁, hstep₁⟩ := X.invokestatic hexec hown hlink hnamed hmethM hstatic hkP hinitP hy (g := g) hg (argsL := argsL) (rest := rest) (hlen _ hsigM) hstack hdg
  rcases hK m meth c ⟨T.setVm vm₁, locs, cells, slots⟩ { g with stack := rest } (.invokestatic index) mk argsL.toArray X₁ hg hsize hdg hW (X₁.named hnamed) (hpre vm₁ X₁.warmed) with ⟨v, B, X', hpost, hsteps⟩ | ⟨q, B, X', hpost, hsteps⟩
  · exact Or.inl ⟨v, vm₁, B, X₁.warmed, X', hpost, fun target h => hstep₁ _ fun acts => by rw [doInvoke_state]; exact hsteps.trans h⟩
  · exact Or.inr ⟨q, vm₁, B, X₁.warmed, X', hpost, hstep₁ _ fun acts => by rw [doInvoke_state]; exact hsteps⟩
end Calls
theorem vx_cls {s : State} {T : State} {vm₁ : Vm} {E : String} {k : ClassId} (hW : s.WarmedH vm₁) (h : (T.setVm vm₁).vm.findClass E = some k) : s.vm.findClass E = some k := by
  have h1 : vm₁.findClass E = some k := h
  rw [hW.alike.findClass] at h1
  exact h1
/-- the method's frame g, with q thrown over it -/
def vx_W (p : Program) (l : Launch) (e : Env) (R : Room) (s : State) (m : MethodId) (args : Array Value) (below : List Frame) (meth : Method) (c : Code) (H : Heap) (locs : List Loc) (cells slots : Nat) (Q : State → Prop) (g : JFrame) (q : Addr) : Prop :=
  ∀ T : State, T.heap = H → Stand p l e R s m args below meth c T locs cells slots → ∃ t, Steps p.tables e below ((T.setTop g).pushFrame (.throwing q)) t ∧ Q t
def vx_Run (p : Program) (l : Launch) (e : Env) (R : Room) (s : State) (m : MethodId) (args : Array Value) (below : List Frame) (meth : Method) (c : Code) (H : Heap) (locs : List Loc) (cells slots mc ms : Nat) (g : JFrame) (rest : List Value) (Qa : State → Outcome → State → Prop) (XC : String → State → State → Prop) (free : Addr → Prop) : Prop :=
  ∀ T : State, T.heap = H → Stand p l e R s m args below meth c T locs cells slots →
    (∃ (v : Option Value) (st₀ t T' : State) (L : List Loc), st₀.heap = H ∧ Stand p l e R s m args below meth c T' (locs ++ L) (cells + mc) (slots + ms) ∧ (∀ q ∈ L, free q.base) ∧ T'.heap = t.heap ∧ T'.vm = t.vm ∧ Qa st₀ (.returned v) t ∧
      Goes p e below T g T' { g with pc := g.pc + 3, stack := v.toList ++ rest }) ∨
    (∃ (q : Addr) (st₀ t T' : State) (L : List Loc) (E : String) (ce : Cell), st₀.heap = H ∧ Stand p l e R s m args below meth c T' (locs ++ L) (cells + mc) (slots + ms) ∧ (∀ z ∈ L, free z.base) ∧ T'.heap = t.heap ∧ T'.vm = t.vm ∧ XC E st₀ t ∧ t.heap[q]? = some ce ∧ ce.vm = .none ∧ s.vm.findClass E = some ce.cls ∧
      Steps p.tables e below (T.setTop g) ((T'.setTop { g with stack := rest }).pushFrame (.throwing q)))
def vx_X {S : Type} (px : S → Prop) (B : String → S → State → Prop) (A : Nat → Prop) : String → State → State → Prop := fun E st t => ∃ u : S, px u ∧ B E u t ∧ va_F A st t
section Runs
variable {p : Program} {l : Launch} {e : Env} {R : Room} {s : State} {m : MethodId} {args : Array Value} {below : List Frame} {meth : Method} {c : Code} {H : Heap} {locs : List Loc} {cells slots : Nat}
variable {y : MethodName} {bytes cc : ByteArray} {maxL nL mc ms n index : Nat} {ret : Option FieldType} {ws : List Cond} {rm : Room} {Pc : Array Value → State → Prop} {Qc : Array Value → State → Outcome → State → Prop} {XC : String → State → State → Prop} {free : Addr → Prop} {Ts : List Cond} {own C : String} {b : Addr} {As rest : List Value} {g : JFrame}
theorem vx_callBack (cb : CallB R s args own index y bytes maxL ret ws rm mc ms n) (hM : vx_Met l y ws rm Pc Qc XC mc ms free) (hbl : FrameBlind Pc) : vx_Back l R p e below s args y 3 8 (PreOf R mc ms Pc) (PostOf Qc mc ms free) (vx_Post XC mc ms free) := by
  obtain ⟨hrc, hrs, hfr, hlo, hws, hcw, -, hini, -⟩ := cb
  exact vx_back (bytes := bytes) (maxL := maxL) (ret := ret) hM hbl hrc hrs hfr hlo hws hcw (fun a' U hW => word_at hW (Or.inl (by first | rfl | simp [Cond.onTables, Cond.keeps, Cond.steady])) hini)
theorem vx_runV (S : CallFix p m c cc nL s args Ts own) (hM : vx_Met l y ws rm Pc Qc XC mc ms free) (cw : CallW R s args own C index y bytes maxL ret ws rm mc ms n) (hp : PreV s H C b Pc As)
    (hg : g.method = m) (hn : As.length = n) (hsize : g.locals.size = nL) (hstack : g.stack = As.reverse ++ .ref b :: rest) (hW : 2 * g.monitorRoom + (rest.map fun v => v.category).sum ≤ 8) (hdg : decode cc g.pc = .ok (.invokevirtual index, 3)) (hf : cells + mc ≤ R.cells ∧ slots + ms ≤ R.slots) :
    vx_Run p l e R s m args below meth c H locs cells slots mc ms g rest (Qc (Value.ref b :: As).toArray) XC free := by
  have hK : vx_Back l R p e below s args y 3 8 (PreOf R mc ms Pc) (PostOf Qc mc ms free) (vx_Post XC mc ms free) := vx_callBack cw.1 hM hp.1
  obtain ⟨⟨-, -, -, -, -, -, hcode, -, hy, hlen, hl⟩, hin, hse⟩ := cw
  obtain ⟨hx, hb, hml, ho, -⟩ := S
  obtain ⟨-, ⟨cellB, hcB, hoB, hclB⟩, hPc⟩ := hp
  intro T hT X
  rcases vx_callV X hx (C := C) (bytes := bytes) (maxL := maxL) (ret := ret) ho hl hin hse hcode hy hK (by rw [hT]; exact hcB) hoB hclB hg (hsize.trans hml.symm) (argsL := As) (rest := rest) (fun sig h => hn.trans (hlen sig h)) hstack hW (by rw [hb]; exact hdg)
    (fun vm₁ hW₁ => ⟨hf.1, hf.2, hPc (T.setVm vm₁) hT hW₁⟩) with ⟨v, vm₁, ⟨U', l2, c2, s2⟩, hW₁, X', ⟨g', mk, t, L, e1, e2, hq, h1, hL, h2, h3⟩, st⟩ | ⟨q, vm₁, ⟨U', l2, c2, s2⟩, hW₁, X', ⟨g', mk, t, L, E, ce, e1, e2, hq, hce, hcv, hcl, h1, hL, h2, h3⟩, st⟩
  · dsimp only [Pt.U, Pt.locs, Pt.cells, Pt.slots] at X' e1 e2 h1 h2 h3 st
    subst h1; subst h2; subst h3
    exact Or.inl ⟨v, (T.setVm vm₁).calling g' mk (Value.ref b :: As).toArray, t, U', L, hT, X', hL, e1, e2, hq, st⟩
  · dsimp only [Pt.U, Pt.locs, Pt.cells, Pt.slots] at X' e1 e2 h1 h2 h3 st hcl
    subst h1; subst h2; subst h3
    exact Or.inr ⟨q, (T.setVm vm₁).calling g' mk (Value.ref b :: As).toArray, t, U', L, E, ce, hT, X', hL, e1, e2, hq, hce, hcv, vx_cls hW₁ hcl, st⟩
theorem vx_runS (S : CallFix p m c cc nL s args Ts own) (hM : vx_Met l y ws rm Pc Qc XC mc ms free) (cw : CallB R s args own index y bytes maxL ret ws rm mc ms n ∧ (Cond.static y).before args s = true) (hp : PreS s H Pc As)
    (hg : g.method = m) (hn : As.length = n) (hsize : g.locals.size = nL) (hstack : g.stack = As.reverse ++ rest) (hW : 2 * g.monitorRoom + (rest.map fun v => v.category).sum ≤ 8) (hdg : decode cc g.pc = .ok (.invokestatic index, 3)) (hf : cells + mc ≤ R.cells ∧ slots + ms ≤ R.slots) :
    vx_Run p l e R s m args below meth c H locs cells slots mc ms g rest (Qc As.toArray) XC free := by
  have hK : vx_Back l R p e below s args y 3 8 (PreOf R mc ms Pc) (PostOf Qc mc ms free) (vx_Post XC mc ms free) := vx_callBack cw.1 hM hp.1
  obtain ⟨⟨-, -, -, -, -, -, hcode, hini, hy, hlen, hl⟩, hstt⟩ := cw
  obtain ⟨hx, hb, hml, ho, -⟩ := S
  intro T hT X
  rcases vx_callS X hx (bytes := bytes) (maxL := maxL) (ret := ret) ho hl hstt hini hcode hy hK hg (hsize.trans hml.symm) (argsL := As) (rest := rest) (fun sig h => hn.trans (hlen sig h)) hstack hW (by rw [hb]; exact hdg)
    (fun vm₁ hW₁ => ⟨hf.1, hf.2, hp.2 (T.setVm vm₁) hT hW₁⟩) with ⟨v, vm₁, ⟨U', l2, c2, s2⟩, hW₁, X', ⟨g', mk, t, L, e1, e2, hq, h1, hL, h2, h3⟩, st⟩ | ⟨q, vm₁, ⟨U', l2, c2, s2⟩, hW₁, X', ⟨g', mk, t, L, E, ce, e1, e2, hq, hce, hcv, hcl, h1, hL, h2, h3⟩, st⟩
  · dsimp only [Pt.U, Pt.locs, Pt.cells, Pt.slots] at X' e1 e2 h1 h2 h3 st
    subst h1; subst h2; subst h3
    exact Or.inl ⟨v, (T.setVm vm₁).calling g' mk As.toArray, t, U', L, hT, X', hL, e1, e2, hq, st⟩
  · dsimp only [Pt.U, Pt.locs, Pt.cells, Pt.slots] at X' e1 e2 h1 h2 h3 st hcl
    subst h1; subst h2; subst h3
    exact Or.inr ⟨q, (T.setVm vm₁).calling g' mk As.toArray, t, U', L, E, ce, hT, X', hL, e1, e2, hq, hce, hcv, vx_cls hW₁ hcl, st⟩
end Runs
section Rows
variable {p : Program} {l : Launch} {e : Env} {R : Room} {s : State} {m : MethodId} {args : Array Value} {below : List Frame} {meth : Method} {c : Code} {H : Heap} {locs : List Loc} {cells slots : Nat} {Q : State → Prop}
variable {mc ms : Nat} {free : Addr → Prop} {A0 A1 : Nat → Prop} {H0 : Heap} {a : Array Value} {pc : Nat} {ls : Array Slot} {st0 rest : List Value}
theorem vx_keep {st₀ t T' : State} {L : List Loc} (h0 : st₀.heap = H) (e1 : T'.heap = t.heap) (hS : va_S A0 H0 H locs) (hA : ∀ q, q < H.size → A1 q → A0 q) (hf : ∀ q, free q → A0 q) (hL : ∀ q ∈ L, free q.base) (hF : va_F A1 st₀ t) :
    H.size ≤ T'.heap.size ∧ (∀ q : Nat, q < H.size → ¬ A1 q → T'.heap[q]? = H[q]?) ∧ va_S A0 H0 T'.heap (locs ++ L) := by
  obtain ⟨hz, hk⟩ := hF
  rw [h0] at hz hk
  exact ⟨by rw [e1]; exact hz, fun q h1 h2 => by rw [e1]; exact hk q h1 h2,
    ⟨Nat.le_trans hS.1 (by rw [e1]; exact hz), fun q h1 h2 => by rw [e1, hk q (Nat.lt_of_lt_of_le h1 hS.1) (fun z => h2 (hA q (Nat.lt_of_lt_of_le h1 hS.1) z))]; exact hS.2.1 q h1 h2, fun q hq => by
      rcases List.mem_append.mp hq with h | h
      · exact hS.2.2 q h
      · exact hf _ (hL q h)⟩⟩
theorem vx_calli {S SX : Type} {post : Int32 → S → Prop} {px : SX → Prop} {B : S → State → Prop} {BX : String → SX → State → Prop} {AX : Nat → Prop} (hr : vx_Run p l e R s m args below meth c H locs cells slots mc ms (F0 m pc ls st0) rest (va_Qi post B A1 a) (vx_X px BX AX) free) (hS : va_S A0 H0 H locs) (hA : ∀ q, q < H.size → A1 q → A0 q) (hf : ∀ q, free q → A0 q) (hAX : ∀ q, q < H.size → AX q → A0 q)
    (kx : ∀ (E : String) (ce : Cell) (q9 : Addr) (u : SX) (t : State) (H1 : Heap) (locs1 : List Loc), t.heap = H1 → s.vm.Alike t.vm → px u → BX E u t → H.size ≤ H1.size → (∀ q : Nat, q < H.size → ¬ AX q → H1[q]? = H[q]?) → va_S A0 H0 H1 locs1 → H1[q9]? = some ce → ce.vm = .none → s.vm.findClass E = some ce.cls → vx_W p l e R s m args below meth c H1 locs1 (cells + mc) (slots + ms) Q (F0 m pc ls rest) q9)
    (kk : ∀ (r : Int32) (u : S) (t : State) (H1 : Heap) (locs1 : List Loc), t.heap = H1 → s.vm.Alike t.vm → post r u → B u t → H.size ≤ H1.size → (∀ q : Nat, q < H.size → ¬ A1 q → H1[q]? = H[q]?) → va_S A0 H0 H1 locs1 → W p l e R s m args below meth c H1 locs1 (cells + mc) (slots + ms) Q (F0 m (pc + 3) ls (.int r :: rest))) : W p l e R s m args below meth c H locs cells slots Q (F0 m pc ls st0) := by
  intro T hT X
  rcases hr T hT X with ⟨v, st₀, t, T', L, h0, X', hL, e1, e2, ⟨⟨r, u, hv, hp, hb⟩, hF⟩, st⟩ | ⟨q, st₀, t, T', L, E, ce, h0, X', hL, e1, e2, ⟨u, hp, hb, hF⟩, hce, hcv, hcl, st⟩
  · cases hv
    obtain ⟨k1, k2, k3⟩ := vx_keep h0 e1 hS hA hf hL hF
    obtain ⟨t2, a1, b1⟩ := kk r u t T'.heap (locs ++ L) e1.symm (by rw [← e2]; exact X'.warmed.alike) hp hb k1 k2 k3 T' rfl X'
    exact ⟨t2, st t2 a1, b1⟩
  · obtain ⟨k1, k2, k3⟩ := vx_keep h0 e1 hS hAX hf hL hF
    obtain ⟨t2, a1, b1⟩ := kx E ce q u t T'.heap (locs ++ L) e1.symm (by rw [← e2]; exact X'.warmed.alike) hp hb k1 k2 k3 (by rw [e1]; exact hce) hcv hcl T' rfl X'
    exact ⟨t2, st.trans a1, b1⟩
theorem vx_calll {S SX : Type} {post : Int64 → S → Prop} {px : SX → Prop} {B : S → State → Prop} {BX : String → SX → State → Prop} {AX : Nat → Prop} (hr : vx_Run p l e R s m args below meth c H locs cells slots mc ms (F0 m pc ls st0) rest (va_Ql post B A1 a) (vx_X px BX AX) free) (hS : va_S A0 H0 H locs) (hA : ∀ q, q < H.size → A1 q → A0 q) (hf : ∀ q, free q → A0 q) (hAX : ∀ q, q < H.size → AX q → A0 q)
    (kx : ∀ (E : String) (ce : Cell) (q9 : Addr) (u : SX) (t : State) (H1 : Heap) (locs1 : List Loc), t.heap = H1 → s.vm.Alike t.vm → px u → BX E u t → H.size ≤ H1.size → (∀ q : Nat, q < H.size → ¬ AX q → H1[q]? = H[q]?) → va_S A0 H0 H1 locs1 → H1[q9]? = some ce → ce.vm = .none → s.vm.findClass E = some ce.cls → vx_W p l e R s m args below meth c H1 locs1 (cells + mc) (slots + ms) Q (F0 m pc ls rest) q9)
    (kk : ∀ (r : Int64) (u : S) (t : State) (H1 : Heap) (locs1 : List Loc), t.heap = H1 → s.vm.Alike t.vm → post r u → B u t → H.size ≤ H1.size → (∀ q : Nat, q < H.size → ¬ A1 q → H1[q]? = H[q]?) → va_S A0 H0 H1 locs1 → W p l e R s m args below meth c H1 locs1 (cells + mc) (slots + ms) Q (F0 m (pc + 3) ls (.long r :: rest))) : W p l e R s m args below meth c H locs cells slots Q (F0 m pc ls st0) := by
  intro T hT X
  rcases hr T hT X with ⟨v, st₀, t, T', L, h0, X', hL, e1, e2, ⟨⟨r, u, hv, hp, hb⟩, hF⟩, st⟩ | ⟨q, st₀, t, T', L, E, ce, h0, X', hL, e1, e2, ⟨u, hp, hb, hF⟩, hce, hcv, hcl, st⟩
  · cases hv
    obtain ⟨k1, k2, k3⟩ := vx_keep h0 e1 hS hA hf hL hF
    obtain ⟨t2, a1, b1⟩ := kk r u t T'.heap (locs ++ L) e1.symm (by rw [← e2]; exact X'.warmed.alike) hp hb k1 k2 k3 T' rfl X'
    exact ⟨t2, st t2 a1, b1⟩
  · obtain ⟨k1, k2, k3⟩ := vx_keep h0 e1 hS hAX hf hL hF
    obtain ⟨t2, a1, b1⟩ := kx E ce q u t T'.heap (locs ++ L) e1.symm (by rw [← e2]; exact X'.warmed.alike) hp hb k1 k2 k3 (by rw [e1]; exact hce) hcv hcl T' rfl X'
    exact ⟨t2, st.trans a1, b1⟩
theorem vx_callf {S SX : Type} {post : UInt32 → S → Prop} {px : SX → Prop} {B : S → State → Prop} {BX : String → SX → State → Prop} {AX : Nat → Prop} (hr : vx_Run p l e R s m args below meth c H locs cells slots mc ms (F0 m pc ls st0) rest (va_Qf post B A1 a) (vx_X px BX AX) free) (hS : va_S A0 H0 H locs) (hA : ∀ q, q < H.size → A1 q → A0 q) (hf : ∀ q, free q → A0 q) (hAX : ∀ q, q < H.size → AX q → A0 q)
    (kx : ∀ (E : String) (ce : Cell) (q9 : Addr) (u : SX) (t : State) (H1 : Heap) (locs1 : List Loc), t.heap = H1 → s.vm.Alike t.vm → px u → BX E u t → H.size ≤ H1.size → (∀ q : Nat, q < H.size → ¬ AX q → H1[q]? = H[q]?) → va_S A0 H0 H1 locs1 → H1[q9]? = some ce → ce.vm = .none → s.vm.findClass E = some ce.cls → vx_W p l e R s m args below meth c H1 locs1 (cells + mc) (slots + ms) Q (F0 m pc ls rest) q9)
    (kk : ∀ (r : UInt32) (u : S) (t : State) (H1 : Heap) (locs1 : List Loc), t.heap = H1 → s.vm.Alike t.vm → post r u → B u t → H.size ≤ H1.size → (∀ q : Nat, q < H.size → ¬ A1 q → H1[q]? = H[q]?) → va_S A0 H0 H1 locs1 → W p l e R s m args below meth c H1 locs1 (cells + mc) (slots + ms) Q (F0 m (pc + 3) ls (.float r :: rest))) : W p l e R s m args below meth c H locs cells slots Q (F0 m pc ls st0) := by
  intro T hT X
  rcases hr T hT X with ⟨v, st₀, t, T', L, h0, X', hL, e1, e2, ⟨⟨r, u, hv, hp, hb⟩, hF⟩, st⟩ | ⟨q, st₀, t, T', L, E, ce, h0, X', hL, e1, e2, ⟨u, hp, hb, hF⟩, hce, hcv, hcl, st⟩
  · cases hv
    obtain ⟨k1, k2, k3⟩ := vx_keep h0 e1 hS hA hf hL hF
    obtain ⟨t2, a1, b1⟩ := kk r u t T'.heap (locs ++ L) e1.symm (by rw [← e2]; exact X'.warmed.alike) hp hb k1 k2 k3 T' rfl X'
    exact ⟨t2, st t2 a1, b1⟩
  · obtain ⟨k1, k2, k3⟩ := vx_keep h0 e1 hS hAX hf hL hF
    obtain ⟨t2, a1, b1⟩ := kx E ce q u t T'.heap (locs ++ L) e1.symm (by rw [← e2]; exact X'.warmed.alike) hp hb k1 k2 k3 (by rw [e1]; exact hce) hcv hcl T' rfl X'
    exact ⟨t2, st.trans a1, b1⟩
theorem vx_calld {S SX : Type} {post : UInt64 → S → Prop} {px : SX → Prop} {B : S → State → Prop} {BX : String → SX → State → Prop} {AX : Nat → Prop} (hr : vx_Run p l e R s m args below meth c H locs cells slots mc ms (F0 m pc ls st0) rest (va_Qd post B A1 a) (vx_X px BX AX) free) (hS : va_S A0 H0 H locs) (hA : ∀ q, q < H.size → A1 q → A0 q) (hf : ∀ q, free q → A0 q) (hAX : ∀ q, q < H.size → AX q → A0 q)
    (kx : ∀ (E : String) (ce : Cell) (q9 : Addr) (u : SX) (t : State) (H1 : Heap) (locs1 : List Loc), t.heap = H1 → s.vm.Alike t.vm → px u → BX E u t → H.size ≤ H1.size → (∀ q : Nat, q < H.size → ¬ AX q → H1[q]? = H[q]?) → va_S A0 H0 H1 locs1 → H1[q9]? = some ce → ce.vm = .none → s.vm.findClass E = some ce.cls → vx_W p l e R s m args below meth c H1 locs1 (cells + mc) (slots + ms) Q (F0 m pc ls rest) q9)
    (kk : ∀ (r : UInt64) (u : S) (t : State) (H1 : Heap) (locs1 : List Loc), t.heap = H1 → s.vm.Alike t.vm → post r u → B u t → H.size ≤ H1.size → (∀ q : Nat, q < H.size → ¬ A1 q → H1[q]? = H[q]?) → va_S A0 H0 H1 locs1 → W p l e R s m args below meth c H1 locs1 (cells + mc) (slots + ms) Q (F0 m (pc + 3) ls (.double r :: rest))) : W p l e R s m args below meth c H locs cells slots Q (F0 m pc ls st0) := by
  intro T hT X
  rcases hr T hT X with ⟨v, st₀, t, T', L, h0, X', hL, e1, e2, ⟨⟨r, u, hv, hp, hb⟩, hF⟩, st⟩ | ⟨q, st₀, t, T', L, E, ce, h0, X', hL, e1, e2, ⟨u, hp, hb, hF⟩, hce, hcv, hcl, st⟩
  · cases hv
    obtain ⟨k1, k2, k3⟩ := vx_keep h0 e1 hS hA hf hL hF
    obtain ⟨t2, a1, b1⟩ := kk r u t T'.heap (locs ++ L) e1.symm (by rw [← e2]; exact X'.warmed.alike) hp hb k1 k2 k3 T' rfl X'
    exact ⟨t2, st t2 a1, b1⟩
  · obtain ⟨k1, k2, k3⟩ := vx_keep h0 e1 hS hAX hf hL hF
    obtain ⟨t2, a1, b1⟩ := kx E ce q u t T'.heap (locs ++ L) e1.symm (by rw [← e2]; exact X'.warmed.alike) hp hb k1 k2 k3 (by rw [e1]; exact hce) hcv hcl T' rfl X'
    exact ⟨t2, st.trans a1, b1⟩
theorem vx_callv {S SX : Type} {post : S → Prop} {px : SX → Prop} {B : S → State → Prop} {BX : String → SX → State → Prop} {AX : Nat → Prop} (hr : vx_Run p l e R s m args below meth c H locs cells slots mc ms (F0 m pc ls st0) rest (va_Qv post B A1 a) (vx_X px BX AX) free) (hS : va_S A0 H0 H locs) (hA : ∀ q, q < H.size → A1 q → A0 q) (hf : ∀ q, free q → A0 q) (hAX : ∀ q, q < H.size → AX q → A0 q)
    (kx : ∀ (E : String) (ce : Cell) (q9 : Addr) (u : SX) (t : State) (H1 : Heap) (locs1 : List Loc), t.heap = H1 → s.vm.Alike t.vm → px u → BX E u t → H.size ≤ H1.size → (∀ q : Nat, q < H.size → ¬ AX q → H1[q]? = H[q]?) → va_S A0 H0 H1 locs1 → H1[q9]? = some ce → ce.vm = .none → s.vm.findClass E = some ce.cls → vx_W p l e R s m args below meth c H1 locs1 (cells + mc) (slots + ms) Q (F0 m pc ls rest) q9)
    (kk : ∀ (u : S) (t : State) (H1 : Heap) (locs1 : List Loc), t.heap = H1 → s.vm.Alike t.vm → post u → B u t → H.size ≤ H1.size → (∀ q : Nat, q < H.size → ¬ A1 q → H1[q]? = H[q]?) → va_S A0 H0 H1 locs1 → W p l e R s m args below meth c H1 locs1 (cells + mc) (slots + ms) Q (F0 m (pc + 3) ls (rest))) : W p l e R s m args below meth c H locs cells slots Q (F0 m pc ls st0) := by
  intro T hT X
  rcases hr T hT X with ⟨v, st₀, t, T', L, h0, X', hL, e1, e2, ⟨⟨u, hv, hp, hb⟩, hF⟩, st⟩ | ⟨q, st₀, t, T', L, E, ce, h0, X', hL, e1, e2, ⟨u, hp, hb, hF⟩, hce, hcv, hcl, st⟩
  · cases hv
    obtain ⟨k1, k2, k3⟩ := vx_keep h0 e1 hS hA hf hL hF
    obtain ⟨t2, a1, b1⟩ := kk u t T'.heap (locs ++ L) e1.symm (by rw [← e2]; exact X'.warmed.alike) hp hb k1 k2 k3 T' rfl X'
    exact ⟨t2, st t2 a1, b1⟩
  · obtain ⟨k1, k2, k3⟩ := vx_keep h0 e1 hS hAX hf hL hF
    obtain ⟨t2, a1, b1⟩ := kx E ce q u t T'.heap (locs ++ L) e1.symm (by rw [← e2]; exact X'.warmed.alike) hp hb k1 k2 k3 (by rw [e1]; exact hce) hcv hcl T' rfl X'
    exact ⟨t2, st.trans a1, b1⟩
/-- caught by the row x of this method's table; the rows ahead don't take it -/
theorem vx_catch {own name : String} {E : String} {ce : Cell} {q : Addr} (hown : s.vm.findClass own = some m.cls) (pre : List ExceptionTableEntry) (x : ExceptionTableEntry) (suf : List ExceptionTableEntry) (hsplit : c.exceptionTable.toList = pre ++ x :: suf)
    (hpass : ∀ z ∈ pre, covers z pc = false ∨ (z.catchType ≠ 0 ∧ ∃ nm : String, (Cond.classLink own z.catchType nm).before args s = true ∧ va_Nc E nm s)) (hx : covers x pc = true) (h0 : x.catchType ≠ 0)
    (hlink : (Cond.classLink own x.catchType name).before args s = true) (hcast : (Cond.castable E name).before args s = true) (hcell : H[q]? = some ce) (hv : ce.vm = .none) (hcl : s.vm.findClass E = some ce.cls)
    (kk : W p l e R s m args below meth c H locs cells slots Q (F0 m x.handlerPc ls [.ref q])) : vx_W p l e R s m args below meth c H locs cells slots Q (F0 m pc ls rest) q := by
  intro T hT X
  have hpl : e.platform.magicAccessors = ({} : Platform).magicAccessors := by rw [X.admits.platform]
  obtain ⟨c3, c4, hc3, hc4, hasg⟩ := Cond.castable_spec hcast
  cases Option.some.inj (hc3.symm.trans hcl)
  obtain ⟨c5, hc5, hcl5⟩ := Cond.classLink_spec hown hlink e.platform hpl
  cases Option.some.inj (hc4.symm.trans hc5)
  obtain ⟨vm', X', st⟩ := X.thenCaughtThrough q (g := F0 m pc ls rest) rfl (Steps.refl _) (by rw [hT]; exact hcell) (by rw [hv]; rfl) (by obtain ⟨k9, h9, -⟩ := Vm.findClass_spec hcl; exact ⟨k9, h9⟩) pre x suf hsplit
    (fun z hz => by
      rcases hpass z hz with h | ⟨hz0, nm, hl1, hn1⟩
      · exact Or.inl h
      · obtain ⟨c6, hc6, hcl6⟩ := Cond.classLink_spec hown hl1 e.platform hpl
        obtain ⟨a8, b8, h1, h2, h3⟩ := hn1
        cases Option.some.inj (h1.symm.trans hcl)
        cases Option.some.inj (h2.symm.trans hc6)
        exact Or.inr ⟨hz0, _, hcl6, h3⟩) hx (Or.inr ⟨h0, c4, hcl5, hasg⟩)
  obtain ⟨t, a1, b1⟩ := kk (T.setVm vm') hT X'
  exact ⟨t, st.trans a1, b1⟩
end Rows
section Ends
variable {p : Program} {l : Launch} {e : Env} {R : Room} {s : State} {m : MethodId} {args : Array Value} {below : List Frame} {meth : Method} {c : Code} {H : Heap} {locs : List Loc} {cells slots : Nat} {Q : State → Prop}
variable {mc ms : Nat} {free : Addr → Prop} {A0 A1 : Nat → Prop} {H0 : Heap} {a : Array Value} {ls : Array Slot} {st0 rest : List Value}
variable {Qc : Array Value → State → Outcome → State → Prop} {XC : String → State → State → Prop}
/-- what a body that may throw owes at its end -/
def vx_MQ (below : List Frame) (Qc : Array Value → State → Outcome → State → Prop) (XC : String → State → State → Prop) (a : Array Value) (s : State) (mc ms : Nat) (free : Addr → Prop) : State → Prop := fun t =>
  ∃ o, t.status = .running ∧ Ended t below o ∧ vx_Q Qc XC mc ms free a s o t
theorem vx_ret {g : JFrame} {mc ms : Nat} (k : W p l e R s m args below meth c H locs cells slots (MQ below Qc args s mc ms free) g) : W p l e R s m args below meth c H locs cells slots (vx_MQ below Qc XC args s mc ms free) g := by
  intro T hT X
  obtain ⟨t, a1, o, b1, b2, b3, b4⟩ := k T hT X
  exact ⟨t, a1, o, b1, b2, Or.inl ⟨b3, b4⟩⟩
/-- not caught here: it goes on to the caller -/
theorem vx_widen {g : JFrame} {q : Addr} {k n : Nat} (h1 : cells ≤ k) (h2 : slots ≤ n) (kk : vx_W p l e R s m args below meth c H locs k n Q g q) : vx_W p l e R s m args below meth c H locs cells slots Q g q := fun T hT X => kk T hT (stand_widen X h1 h2)
theorem vx_out {pc : Nat} {E : String} {ce : Cell} {q : Addr} {mc ms : Nat} (hout : ∀ x ∈ c.exceptionTable.toList, covers x pc = false) (hlocks : meth.locks = false) (hcell : H[q]? = some ce) (hv : ce.vm = .none) (hcl : s.vm.findClass E = some ce.cls)
    (hx : ∀ t : State, t.heap = H → s.vm.Alike t.vm → XC E s t) (hf : ∀ z ∈ locs, free z.base) (hc : cells ≤ mc) (hs : slots ≤ ms) :
    vx_W p l e R s m args below meth c H locs cells slots (vx_MQ below Qc XC args s mc ms free) (F0 m pc ls rest) q := by
  intro T hT X
  obtain ⟨st1, hrun, hend, hW, hsm⟩ := X.leaveThrown q (g := F0 m pc ls rest) rfl rfl rfl hout hlocks
  have hcell9 : (T.setFrames (.throwing q :: below)).heap[q]? = some ce := by
    show T.heap[q]? = some ce
    rw [hT]; exact hcell
  exact ⟨_, st1, .threw q, hrun, hend, Or.inr ⟨q, rfl, E, ce, locs, hx _ hT hW.alike, hcell9, hv, hcl, hW, hsm.mono hc hs, hf⟩⟩
theorem vx_frame {U : State} {k n : Nat} (h : s.sameButNew ({ U with vm := s.vm } : State) locs k n) : s.heap.size ≤ U.heap.size ∧ ∀ q : Nat, q < s.heap.size → (∀ z ∈ locs, z.base ≠ q) → U.heap[q]? = s.heap[q]? := by
  obtain ⟨-, h2, -, -, -, h6⟩ := h
  refine ⟨h2, fun q hq hz => ?_⟩
  obtain ⟨c9, e1, e2, e3, e4⟩ := h6 q _ (Array.getElem?_eq_getElem hq)
  have hs : c9.slots = (s.heap[q]).slots := Array.ext_getElem? fun i => e4 i fun hm => hz _ hm rfl
  have h9 : c9 = s.heap[q] := by
    rw [hs] at e2
    exact e2
  have e5 : U.heap[q]? = some c9 := e1
  rw [e5, h9, Array.getElem?_eq_getElem hq]
/-- the words of a throw but the four that speak of the heap -/
def vx_no (w : Cond) : Bool := decide (w ≠ .isRef (.static Bundle.tN "UNASSIGNED_STACK" Bundle.steD)) && decide (w ≠ .isRef (.static Bundle.tN "SUPPRESSED_SENTINEL" Bundle.listD)) && decide (w ≠ .laysStatic Bundle.tN "UNASSIGNED_STACK" Bundle.steD) && decide (w ≠ .laysStatic Bundle.tN "SUPPRESSED_SENTINEL" Bundle.listD)
def vx_at0 (own : String) (ic : Nat) (X : String) (names : List String) : List Cond := (Bundle.ownAtoms0 own ic X names).filter vx_no
def vx_atS (own : String) (ic : Nat) (X : String) (names : List String) : List Cond := (Bundle.ownAtoms own ic X names).filter vx_no
/-- a word that the tables alone decide, or a good one -/
def vx_ot (w : Cond) : Bool := w.onTables || goodWord w
theorem vx_ot_at {args a' : Array Value} {s U : State} {w : Cond} (hW : s.WarmedH U.vm) (hvm : s.vm = U.vm) (hg : vx_ot w = true) (h : w.before args s = true) : w.before a' U = true := by
  simp only [vx_ot, Bool.or_eq_true] at hg
  rcases hg with hg | hg
  · exact va_tabs hg hvm h
  · exact word_at hW (good_of_word hg) h
/-- a list's words: the good ones out of the method's own list, the others by premises of their own -/
theorem vx_hat {args : Array Value} {s : State} {L B : List Cond} (h1 : ∀ w ∈ L.filter goodWord, w.before args s = true) (h2 : ∀ w ∈ L.filter (fun w => !goodWord w), w ∈ B) (h3 : ∀ w ∈ B, w.before args s = true) : ∀ w ∈ L, w.before args s = true := by
  intro w hw
  by_cases g : goodWord w = true
  · exact h1 w (List.mem_filter.mpr ⟨hw, g⟩)
  · refine h3 w (h2 w (List.mem_filter.mpr ⟨hw, ?_⟩))
    show (!goodWord w) = true
    cases hgw : goodWord w
    · rfl
    · exact absurd hgw g
theorem vx_c {args : Array Value} {s : State} {w : Cond} {B : List Cond} (h : w.before args s = true) (t : ∀ w ∈ B, w.before args s = true) : ∀ w' ∈ w :: B, w'.before args s = true := fun w' h' => (List.mem_cons.mp h').elim (fun e => by rw [e]; exact h) (t w')
theorem vx_n {args : Array Value} {s : State} : ∀ w ∈ ([] : List Cond), w.before args s = true := fun _ h => nomatch h
theorem vx_own {args : Array Value} {s : State} {L : List Cond} (h1 : ∀ w ∈ L.filter vx_no, w.before args s = true)
    (hU : (Cond.isRef (.static Bundle.tN "UNASSIGNED_STACK" Bundle.steD)).before args s = true) (hN : (Cond.isRef (.static Bundle.tN "SUPPRESSED_SENTINEL" Bundle.listD)).before args s = true)
    (lU : (Cond.laysStatic Bundle.tN "UNASSIGNED_STACK" Bundle.steD).before args s = true) (lN : (Cond.laysStatic Bundle.tN "SUPPRESSED_SENTINEL" Bundle.listD).before args s = true) : ∀ w ∈ L, w.before args s = true := by
  intro w hw
  by_cases e1 : w = .isRef (.static Bundle.tN "UNASSIGNED_STACK" Bundle.steD)
  · rw [e1]; exact hU
  · by_cases e2 : w = .isRef (.static Bundle.tN "SUPPRESSED_SENTINEL" Bundle.listD)
    · rw [e2]; exact hN
    · by_cases e3 : w = .laysStatic Bundle.tN "UNASSIGNED_STACK" Bundle.steD
      · rw [e3]; exact lU
      · by_cases e4 : w = .laysStatic Bundle.tN "SUPPRESSED_SENTINEL" Bundle.listD
        · rw [e4]; exact lN
        · exact h1 w (List.mem_filter.mpr ⟨hw, by unfold vx_no; rw [decide_eq_true e1, decide_eq_true e2, decide_eq_true e3, decide_eq_true e4]; rfl⟩)
/-- where a static field lies, its class's statics cell in H -/
def vx_L (C n d : String) (A : Nat → Prop) (U : State) (H : Heap) : Prop := ∃ (c : ClassId) (k : Class) (i : Nat) (f : Field) (a : Nat) (cell : Cell), U.vm.findClass C = some c ∧ U.fieldFound? C n d = some (c, k, i, f) ∧ f.isStatic = true ∧ k.statics = some a ∧ H[a]? = some cell ∧ cell.vm.isStatics = true ∧ cell.cls = c ∧ f.slot < cell.slots.size ∧ k.staticTypes[f.slot]? = some f.type ∧ ¬ A a
theorem vx_L.moved {C n d : String} {A : Nat → Prop} {u U : State} {H : Heap} (hvm : u.vm.Alike U.vm) (h : vx_L C n d A u H) : vx_L C n d A U H := by
  obtain ⟨c, k, i, f, a, cell, h1, h2, h3, h4, h5, h6, h7, h8, h9, h10⟩ := h
  obtain ⟨k', hi', he⟩ := State.fieldFound?_setVm hvm h2
  exact ⟨c, k', i, f, a, cell, by rw [hvm.findClass]; exact h1, hi', h3, by rw [he]; exact h4, h5, h6, h7, h8, by rw [he]; exact h9, h10⟩
theorem vx_L.kept {C n d : String} {A : Nat → Prop} {U : State} {H H1 : Heap} (h : vx_L C n d A U H) (hq : ∀ a : Nat, a < H.size → ¬ A a → H1[a]? = H[a]?) : vx_L C n d A U H1 := by
  obtain ⟨c, k, i, f, a, cell, h1, h2, h3, h4, h5, h6, h7, h8, h9, h10⟩ := h
  exact ⟨c, k, i, f, a, cell, h1, h2, h3, h4, by rw [hq a (Array.getElem?_eq_some_iff.mp h5).1 h10]; exact h5, h6, h7, h8, h9, h10⟩
theorem vx_L.narrow {C n d : String} {A B : Nat → Prop} {U : State} {H : Heap} (h : vx_L C n d A U H) (hAB : ∀ q, B q → A q) : vx_L C n d B U H := by
  obtain ⟨c, k, i, f, a, cell, h1, h2, h3, h4, h5, h6, h7, h8, h9, h10⟩ := h
  exact ⟨c, k, i, f, a, cell, h1, h2, h3, h4, h5, h6, h7, h8, h9, fun z => h10 (hAB _ z)⟩
theorem vx_L.word {C n d : String} {A : Nat → Prop} {s : State} {args : Array Value} (h : vx_L C n d A s s.heap) : (Cond.laysStatic C n d).before args s = true := by
  obtain ⟨c, k, i, f, a, cell, h1, h2, h3, h4, h5, h6, h7, h8, h9, -⟩ := h
  show (Cond.laysStatic C n d).holds args s none s [] = true
  exact Cond.laysStatic_of h1 h2 h3 h4 h5 h6 h7 h8 h9
/-- .. and what it holds: null or some reference -/
def vx_Zq (C n d : String) (A : Nat → Prop) (U : State) (H : Heap) : Prop := va_Zq C n d A U H ∧ vx_L C n d A U H
theorem vx_Zq.moved {C n d : String} {A : Nat → Prop} {u U : State} {H : Heap} (hvm : u.vm.Alike U.vm) (h : vx_Zq C n d A u H) : vx_Zq C n d A U H := ⟨va_Zq.moved hvm h.1, vx_L.moved hvm h.2⟩
theorem vx_Zq.kept {C n d : String} {A : Nat → Prop} {U : State} {H H1 : Heap} (h : vx_Zq C n d A U H) (hq : ∀ a : Nat, a < H.size → ¬ A a → H1[a]? = H[a]?) : vx_Zq C n d A U H1 := ⟨va_Zq.kept h.1 hq, vx_L.kept h.2 hq⟩
theorem vx_Zq.narrow {C n d : String} {A B : Nat → Prop} {U : State} {H : Heap} (h : vx_Zq C n d A U H) (hAB : ∀ q, B q → A q) : vx_Zq C n d B U H := ⟨va_Zq.narrow h.1 hAB, vx_L.narrow h.2 hAB⟩
theorem vx_Zqof {args : Array Value} {s : State} {C n d : String} {A : Nat → Prop} (hl : (Cond.laysStatic C n d).before args s = true) (hini : (Cond.initialized C).before args s = true) (h : (Cond.isRef (.static C n d)).before args s = true) (hA : ∀ a : Nat, a < s.heap.size → ¬ A a) : vx_Zq C n d A s s.heap := by
  refine ⟨va_Zqof hl hini h hA, ?_⟩
  obtain ⟨c, k, i, f, a, cell, h1, h2, h3, h4, h5, h6, h7, h8, h9⟩ := Cond.laysStatic_spec hl
  exact ⟨c, k, i, f, a, cell, h1, h2, h3, h4, h5, h6, h7, h8, h9, hA a (Array.getElem?_eq_some_iff.mp h5).1⟩
theorem vx_isRef {C n d : String} {v : Value} {A : Nat → Prop} {s : State} {args : Array Value} (h : va_Z C n d v A s s.heap) (hv : v.isRef = true) : (Cond.isRef (.static C n d)).before args s = true := by
  obtain ⟨cf, kf, fi, f, a, cell, h1, h2, h3, h4, h5, h6, h7, -⟩ := h
  have he : (Term.static C n d).eval args s none [] s = some v := by
    simp [Term.eval, State.fieldNamed?, h1, h2, h4, h5, h6, h7]
  simp only [Cond.before, Cond.holds, Cond.value, he]
  cases v <;> simp_all [Value.isRef]
theorem vx_isRefq {C n d : String} {A : Nat → Prop} {s : State} {args : Array Value} (h : va_Zq C n d A s s.heap) : (Cond.isRef (.static C n d)).before args s = true := by
  rcases h with h | ⟨t, h⟩
  · exact vx_isRef h rfl
  · exact vx_isRef h rfl
/-- the same frame, seen from here: as if the method were called anew in this heap -/
theorem vx_rebase {T : State} (X : Stand p l e R s m args below meth c T locs cells slots) {R' : Room} (hf : R'.frames ≤ R.frames) (hl : R'.locals ≤ R.locals) (hc : cells + R'.cells ≤ R.cells) (hs : slots + R'.slots ≤ R.slots) :
    Stand p l e R' ((T.setVm s.vm).setFrames (.invoking m args :: below)) m args below meth c T [] 0 0 := by
  have htop : (T.setVm s.vm).topJava?.isSome := X.here.top
  have hF : ((T.setVm s.vm).setFrames (.invoking m args :: below)).frames = .invoking m args :: below := State.frames_setFrames _ (State.cur_lt_of_top htop)
  obtain ⟨g₀, hg0⟩ := Option.isSome_iff_exists.mp htop
  obtain ⟨r, hr⟩ := State.topJava?_eq_some.mp hg0
  have hl9 : e.platform.stackLimits (T.setVm s.vm).me = e.platform.stackLimits s.me := X.limits
  have hb9 : (T.setVm s.vm).me.stackBytes = s.me.stackBytes := X.bytes
  refine ⟨X.admits, X.cas, X.clock, hF, ?_, X.hears, X.method, X.code, X.here, X.tail, X.warmed, ?_, ?_, ?_⟩
  · have h := X.room
    have hU : ((T.setVm s.vm).setFrames (.invoking m args :: below)).localsInUse = s.localsInUse := by
      rw [State.localsInUse_invoking hF (meth := meth) (c := c) X.method X.code, State.localsInUse_invoking X.frames X.method X.code]
    simp only [State.hasRoom, Bool.and_eq_true, decide_eq_true_eq] at h ⊢
    obtain ⟨⟨⟨⟨h1, h2, h3, h4, h5, h6⟩, h7⟩, h8⟩, h9⟩ := h
    rw [X.frames, List.length_cons] at h2 h3
    have q1 := X.heapSize
    have q2 := X.used
    simp only [hF, hU, List.length_cons, State.stackLimits_setFrames, State.stackBytes_setFrames, hl9, hb9]
    refine ⟨⟨⟨⟨by omega, by omega, by omega, by omega, by omega, h6⟩, ?_⟩, ?_⟩, X.book⟩
    · show T.heap.size + R'.cells ≤ e.platform.maxCells
      omega
    · show T.slotsUsed + R'.slots ≤ e.platform.maxSlots
      omega
  · rw [State.stackLimits_setFrames]; rfl
  · rw [State.stackBytes_setFrames]; rfl
  · refine ⟨?_, Nat.le_refl _, Nat.le_refl _, ?_, ?_, fun a c9 h9 => ⟨c9, h9, rfl, rfl, fun _ _ => rfl⟩⟩
    · obtain ⟨t, ht, -⟩ := State.frames_cons hr
      show T.setVm s.vm = { ((T.setVm s.vm).setFrames (.invoking m args :: below)).setFrames (T.setVm s.vm).frames with heap := T.heap, slotsUsed := T.slotsUsed }
      rw [State.setFrames_setFrames, State.setFrames_self ht]
      rfl
    · show T.slotsUsed = T.slotsUsed + ((T.heap.toList.drop T.heap.size).map (·.slots.size)).sum
      rw [List.drop_eq_nil_of_le (Nat.le_of_eq Array.length_toList)]
      rfl
    · show ((T.heap.toList.drop T.heap.size).map (·.slots.size)).sum ≤ 0
      rw [List.drop_eq_nil_of_le (Nat.le_of_eq Array.length_toList)]
      exact Nat.le_refl _
/-- 'throw new E()': new; dup; invokespecial; athrow -/
theorem vx_throw0 {cc : ByteArray} {pc : Nat} (hexec : p.tables.exec = Jvm.exec) (hb : c.code = cc) (hl : l.stackTraces = false) {own cls : String} {names : List String} {ik ic mc ms : Nat} {A : Nat → Prop}
    (hown : s.vm.findClass own = some m.cls) (hcls : Bundle.fit cls = true) (hnames : ∀ n ∈ names, Bundle.fit n = true)
    (hk : (Cond.classLink own ik cls).before args s = true) (hini : (Cond.initialized cls).before args s = true) (hat : ∀ w ∈ vx_at0 own ic cls names, w.before args s = true)
    (hgood : ∀ w ∈ Cond.classLink own ik cls :: Cond.initialized cls :: vx_at0 own ic cls names, vx_ot w = true)
    (hU : vx_Zq Bundle.tN "UNASSIGNED_STACK" Bundle.steD A s s.heap) (hN : vx_Zq Bundle.tN "SUPPRESSED_SENTINEL" Bundle.listD A s s.heap) (hS : va_S A s.heap H locs) (hsize : ls.size = c.maxLocals)
    (d0 : decode cc pc = .ok (.new ik, 3)) (d3 : decode cc (pc + 3) = .ok (.dup, 1)) (d4 : decode cc (pc + 4) = .ok (.invokespecial ic, 3)) (d7 : decode cc (pc + 7) = .ok (.athrow, 1))
    (hout : ∀ x ∈ c.exceptionTable.toList, covers x (pc + 7) = false)
    (hRframes : names.length + 3 < R.frames) (hRlocals : (rest.map fun v => v.category).sum + (13 * (names.length + 1) + 42) ≤ R.locals) (hRcells : cells + 1 ≤ R.cells) (hRslots : slots + 6 ≤ R.slots) (hlocks : meth.locks = false)
    (hx : ∀ t : State, s.vm.Alike t.vm → H.size ≤ t.heap.size → (∀ q : Nat, q < H.size → t.heap[q]? = H[q]?) → XC cls s t)
    (hf : ∀ z ∈ locs, free z.base) (hc : cells + 1 ≤ mc) (hs : slots + 6 ≤ ms) :
    W p l e R s m args below meth c H locs cells slots (vx_MQ below Qc XC args s mc ms free) (F0 m pc ls rest) := by
  intro T hT X
  have htr : e.platform.stackTraces = false := (show e.platform.stackTraces = l.stackTraces by rw [X.admits.platform]).trans hl
  have Y := vx_rebase X (R' := { frames := R.frames, locals := R.locals, cells := 1, slots := 6 }) (Nat.le_refl _) (Nat.le_refl _) hRcells hRslots
  obtain ⟨s', hA⟩ : ∃ z, z = (T.setVm s.vm).setFrames (.invoking m args :: below) := ⟨_, rfl⟩
  rw [← hA] at Y
  have hvm : s'.vm = s.vm := by rw [hA]; rfl
  have hhp : s'.heap = H := by rw [hA]; exact hT
  have hW0 : s.WarmedH s'.vm := by rw [hvm]; exact State.WarmedH.refl s
  have hat' : ∀ w ∈ vx_at0 own ic cls names, w.before args s' = true := fun w hw => vx_ot_at hW0 hvm.symm (hgood w (List.mem_cons_of_mem _ (List.mem_cons_of_mem _ hw))) (hat w hw)
  have hk' : (Cond.classLink own ik cls).before args s' = true := vx_ot_at hW0 hvm.symm (hgood _ List.mem_cons_self) hk
  have hini' : (Cond.initialized cls).before args s' = true := vx_ot_at hW0 hvm.symm (hgood _ (List.mem_cons_of_mem _ List.mem_cons_self)) hini
  have hU' : vx_Zq Bundle.tN "UNASSIGNED_STACK" Bundle.steD A s' s'.heap := by rw [hhp]; exact vx_Zq.moved hW0.alike (hU.kept hS.2.1)
  have hN' : vx_Zq Bundle.tN "SUPPRESSED_SENTINEL" Bundle.listD A s' s'.heap := by rw [hhp]; exact vx_Zq.moved hW0.alike (hN.kept hS.2.1)
  have h : ∀ w ∈ Bundle.ownAtoms0 own ic cls names, w.before args s' = true := vx_own hat' (vx_isRefq hU'.1) (vx_isRefq hN'.1) hU'.2.word hN'.2.word
  have hown' : s'.vm.findClass own = some m.cls := by rw [hvm]; exact hown
  have hins : (Cond.instantiable cls 6).before args s' = true := h _ (by simp [Bundle.ownAtoms0])
  obtain ⟨vm₁, cX, kX, hfX, hkX, -, -, X₁, st1⟩ := Y.newCold hexec (own := own) (C := cls) (index := ik) (n := 6) hown' hk' hins hini'
    (g := F0 m pc ls rest) rfl (by rw [hb]; exact d0) (Nat.le_refl _) (Nat.le_refl _)
  generalize hT1 : (T.setVm vm₁).pushCell { cls := cX, slots := kX.instanceTypes.map defaultValue, vm := .none } = T1 at X₁ st1
  have hcat : (Value.ref T.heap.size).category = 1 := rfl
  have hcellA : T1.heap[T.heap.size]? = some (freshCell cX kX) := by rw [← hT1]; exact State.heap_pushCell_size _ _
  have d3' : decode c.code (pc + 3) = .ok (.dup, 1) := by rw [hb]; exact d3
  obtain ⟨U, hsteps, hrun, hend, hW, hsame, ce, hce, hO⟩ := X₁.ctorThrow0 hexec htr (own := own) (cls := cls) (names := names) (ic := ic) hown' hcls hnames h (fun x hx => nomatch hx) hfX hkX hcellA (by rw [hhp, hT]; exact Nat.le_refl _)
    (g := { method := m, pc := pc + 4, locals := ls, stack := .ref T.heap.size :: .ref T.heap.size :: rest, locked := none }) rfl hsize rfl rfl (rest := rest) rfl
    (by rw [hb]; exact d4) (by rw [hb]; exact d7) hout hRframes (by simp only [List.map_cons, List.sum_cons, hcat]; omega) hlocks
  obtain ⟨f1, f2⟩ := vx_frame hsame
  rw [hhp] at f1 f2
  have hWs : s.WarmedH U.vm := State.WarmedH.trans hW0 hW
  have hcl : s.vm.findClass cls = some ce.cls := by
    have h9 := hO.cls
    rw [hvm] at h9
    exact h9
  have hall : s.sameButNew ({ U with vm := s.vm } : State) locs mc ms := by
    subst hA
    obtain ⟨e1, e2⟩ := hsame
    rw [State.setFrames_setFrames] at e1
    have h2 : (T.setVm s.vm).sameButNew ({ U with vm := s.vm } : State) [] (0 + 1) (0 + 6) := ⟨e1, e2⟩
    have h3 := X.same.trans h2
    rw [List.append_nil] at h3
    exact h3.mono hc hs
  refine ⟨U, ?_, .threw T.heap.size, hrun, hend, Or.inr ⟨T.heap.size, rfl, cls, ce, locs, hx U hWs.alike f1 (fun q hq => f2 q hq (fun z hz => nomatch hz)), hce, hO.vm, hcl, hWs, hall, hf⟩⟩
  refine st1 _ ?_
  show Steps p.tables e below (T1.setTop { method := m, pc := pc + 3, locals := ls, stack := .ref T.heap.size :: rest, locked := none }) _
  jvm_step X₁.here [X₁.here.top, hexec, d3', Value.category]
  exact hsteps
/-- 'throw new E("text")': new; dup; ldc; invokespecial; athrow -/
theorem vx_throwS {cc : ByteArray} {pc : Nat} (hexec : p.tables.exec = Jvm.exec) (hb : c.code = cc) (hl : l.stackTraces = false) {own cls text : String} {names : List String} {ik is ic mc ms sa : Nat} {A : Nat → Prop}
    (hown : s.vm.findClass own = some m.cls) (hcls : Bundle.fit cls = true) (hnames : ∀ n ∈ names, Bundle.fit n = true)
    (hk : (Cond.classLink own ik cls).before args s = true) (hini : (Cond.initialized cls).before args s = true) (hstr : vk_R own is text sa s) (hat : ∀ w ∈ vx_atS own ic cls names, w.before args s = true)
    (hgood : ∀ w ∈ Cond.classLink own ik cls :: Cond.initialized cls :: vx_atS own ic cls names, vx_ot w = true)
    (hU : vx_Zq Bundle.tN "UNASSIGNED_STACK" Bundle.steD A s s.heap) (hN : vx_Zq Bundle.tN "SUPPRESSED_SENTINEL" Bundle.listD A s s.heap) (hS : va_S A s.heap H locs) (hsize : ls.size = c.maxLocals)
    (d0 : decode cc pc = .ok (.new ik, 3)) (d3 : decode cc (pc + 3) = .ok (.dup, 1)) (d4 : decode cc (pc + 4) = .ok (.ldc is, 2)) (d6 : decode cc (pc + 6) = .ok (.invokespecial ic, 3)) (d9 : decode cc (pc + 9) = .ok (.athrow, 1))
    (hout : ∀ x ∈ c.exceptionTable.toList, covers x (pc + 9) = false)
    (hRframes : names.length + 3 < R.frames) (hRlocals : (rest.map fun v => v.category).sum + (13 * (names.length + 1) + 43) ≤ R.locals) (hRcells : cells + 1 ≤ R.cells) (hRslots : slots + 6 ≤ R.slots) (hlocks : meth.locks = false)
    (hx : ∀ t : State, s.vm.Alike t.vm → H.size ≤ t.heap.size → (∀ q : Nat, q < H.size → t.heap[q]? = H[q]?) → XC cls s t)
    (hf : ∀ z ∈ locs, free z.base) (hc : cells + 1 ≤ mc) (hs : slots + 6 ≤ ms) :
    W p l e R s m args below meth c H locs cells slots (vx_MQ below Qc XC args s mc ms free) (F0 m pc ls rest) := by
  intro T hT X
  have htr : e.platform.stackTraces = false := (show e.platform.stackTraces = l.stackTraces by rw [X.admits.platform]).trans hl
  have Y := vx_rebase X (R' := { frames := R.frames, locals := R.locals, cells := 1, slots := 6 }) (Nat.le_refl _) (Nat.le_refl _) hRcells hRslots
  obtain ⟨s', hA⟩ : ∃ z, z = (T.setVm s.vm).setFrames (.invoking m args :: below) := ⟨_, rfl⟩
  rw [← hA] at Y
  have hvm : s'.vm = s.vm := by rw [hA]; rfl
  have hhp : s'.heap = H := by rw [hA]; exact hT
  have hW0 : s.WarmedH s'.vm := by rw [hvm]; exact State.WarmedH.refl s
  have hat' : ∀ w ∈ vx_atS own ic cls names, w.before args s' = true := fun w hw => vx_ot_at hW0 hvm.symm (hgood w (List.mem_cons_of_mem _ (List.mem_cons_of_mem _ hw))) (hat w hw)
  have hk' : (Cond.classLink own ik cls).before args s' = true := vx_ot_at hW0 hvm.symm (hgood _ List.mem_cons_self) hk
  have hini' : (Cond.initialized cls).before args s' = true := vx_ot_at hW0 hvm.symm (hgood _ (List.mem_cons_of_mem _ List.mem_cons_self)) hini
  have hU' : vx_Zq Bundle.tN "UNASSIGNED_STACK" Bundle.steD A s' s'.heap := by rw [hhp]; exact vx_Zq.moved hW0.alike (hU.kept hS.2.1)
  have hN' : vx_Zq Bundle.tN "SUPPRESSED_SENTINEL" Bundle.listD A s' s'.heap := by rw [hhp]; exact vx_Zq.moved hW0.alike (hN.kept hS.2.1)
  have h : ∀ w ∈ Bundle.ownAtoms own ic cls names, w.before args s' = true := vx_own hat' (vx_isRefq hU'.1) (vx_isRefq hN'.1) hU'.2.word hN'.2.word
  have hown' : s'.vm.findClass own = some m.cls := by rw [hvm]; exact hown
  have hins : (Cond.instantiable cls 6).before args s' = true := h _ (by simp [Bundle.ownAtoms])
  obtain ⟨vm₁, cX, kX, hfX, hkX, -, -, X₁, st1⟩ := Y.newCold hexec (own := own) (C := cls) (index := ik) (n := 6) hown' hk' hins hini'
    (g := F0 m pc ls rest) rfl (by rw [hb]; exact d0) (Nat.le_refl _) (Nat.le_refl _)
  generalize hT1 : (T.setVm vm₁).pushCell { cls := cX, slots := kX.instanceTypes.map defaultValue, vm := .none } = T1 at X₁ st1
  have hcat : (Value.ref T.heap.size).category = 1 := rfl
  have hcellA : T1.heap[T.heap.size]? = some (freshCell cX kX) := by rw [← hT1]; exact State.heap_pushCell_size _ _
  have d3' : decode c.code (pc + 3) = .ok (.dup, 1) := by rw [hb]; exact d3
  have d4' : decode c.code (pc + 4) = .ok (.ldc is, 2) := by rw [hb]; exact d4
  have hstr' : vk_R own is text sa s' := vk_R.warm hW0 hstr
  obtain ⟨U, hsteps, hrun, hend, hW, hsame, ce, hce, hO⟩ := X₁.ctorThrowS hexec htr (own := own) (cls := cls) (names := names) (ic := ic) hown' hcls hnames h (fun x hx => nomatch hx) hfX hkX hcellA (by rw [hhp, hT]; exact Nat.le_refl _) (msg := .ref sa) rfl
    (g := { method := m, pc := pc + 6, locals := ls, stack := .ref sa :: .ref T.heap.size :: .ref T.heap.size :: rest, locked := none }) rfl hsize rfl rfl (rest := rest) rfl
    (by rw [hb]; exact d6) (by rw [hb]; exact d9) hout hRframes (by simp only [List.map_cons, List.sum_cons, hcat]; omega) hlocks
  obtain ⟨f1, f2⟩ := vx_frame hsame
  rw [hhp] at f1 f2
  have hWs : s.WarmedH U.vm := State.WarmedH.trans hW0 hW
  have hcl : s.vm.findClass cls = some ce.cls := by
    have h9 := hO.cls
    rw [hvm] at h9
    exact h9
  have hall : s.sameButNew ({ U with vm := s.vm } : State) locs mc ms := by
    subst hA
    obtain ⟨e1, e2⟩ := hsame
    rw [State.setFrames_setFrames] at e1
    have h2 : (T.setVm s.vm).sameButNew ({ U with vm := s.vm } : State) [] (0 + 1) (0 + 6) := ⟨e1, e2⟩
    have h3 := X.same.trans h2
    rw [List.append_nil] at h3
    exact h3.mono hc hs
  refine ⟨U, ?_, .threw T.heap.size, hrun, hend, Or.inr ⟨T.heap.size, rfl, cls, ce, locs, hx U hWs.alike f1 (fun q hq => f2 q hq (fun z hz => nomatch hz)), hce, hO.vm, hcl, hWs, hall, hf⟩⟩
  refine st1 _ ?_
  show Steps p.tables e below (T1.setTop { method := m, pc := pc + 3, locals := ls, stack := .ref T.heap.size :: rest, locked := none }) _
  jvm_step X₁.here [X₁.here.top, hexec, d3', Value.category]
  exact X₁.ldcString hexec (own := own) (text := text) (index := is) (a := sa) hown' hstr'.1 hstr'.2
    (g := { method := m, pc := pc + 4, locals := ls, stack := .ref T.heap.size :: .ref T.heap.size :: rest, locked := none }) rfl d4' _ hsteps
/-- 'throw new E("text")', the text by a wide index -/
theorem vx_throwSW {cc : ByteArray} {pc : Nat} (hexec : p.tables.exec = Jvm.exec) (hb : c.code = cc) (hl : l.stackTraces = false) {own cls text : String} {names : List String} {ik is ic mc ms sa : Nat} {A : Nat → Prop}
    (hown : s.vm.findClass own = some m.cls) (hcls : Bundle.fit cls = true) (hnames : ∀ n ∈ names, Bundle.fit n = true)
    (hk : (Cond.classLink own ik cls).before args s = true) (hini : (Cond.initialized cls).before args s = true) (hstr : vk_R own is text sa s) (hat : ∀ w ∈ vx_atS own ic cls names, w.before args s = true)
    (hgood : ∀ w ∈ Cond.classLink own ik cls :: Cond.initialized cls :: vx_atS own ic cls names, vx_ot w = true)
    (hU : vx_Zq Bundle.tN "UNASSIGNED_STACK" Bundle.steD A s s.heap) (hN : vx_Zq Bundle.tN "SUPPRESSED_SENTINEL" Bundle.listD A s s.heap) (hS : va_S A s.heap H locs) (hsize : ls.size = c.maxLocals)
    (d0 : decode cc pc = .ok (.new ik, 3)) (d3 : decode cc (pc + 3) = .ok (.dup, 1)) (d4 : decode cc (pc + 4) = .ok (.ldc_w is, 3)) (d7 : decode cc (pc + 7) = .ok (.invokespecial ic, 3)) (d10 : decode cc (pc + 10) = .ok (.athrow, 1))
    (hout : ∀ x ∈ c.exceptionTable.toList, covers x (pc + 10) = false)
    (hRframes : names.length + 3 < R.frames) (hRlocals : (rest.map fun v => v.category).sum + (13 * (names.length + 1) + 43) ≤ R.locals) (hRcells : cells + 1 ≤ R.cells) (hRslots : slots + 6 ≤ R.slots) (hlocks : meth.locks = false)
    (hx : ∀ t : State, s.vm.Alike t.vm → H.size ≤ t.heap.size → (∀ q : Nat, q < H.size → t.heap[q]? = H[q]?) → XC cls s t)
    (hf : ∀ z ∈ locs, free z.base) (hc : cells + 1 ≤ mc) (hs : slots + 6 ≤ ms) :
    W p l e R s m args below meth c H locs cells slots (vx_MQ below Qc XC args s mc ms free) (F0 m pc ls rest) := by
  intro T hT X
  have htr : e.platform.stackTraces = false := (show e.platform.stackTraces = l.stackTraces by rw [X.admits.platform]).trans hl
  have Y := vx_rebase X (R' := { frames := R.frames, locals := R.locals, cells := 1, slots := 6 }) (Nat.le_refl _) (Nat.le_refl _) hRcells hRslots
  obtain ⟨s', hA⟩ : ∃ z, z = (T.setVm s.vm).setFrames (.invoking m args :: below) := ⟨_, rfl⟩
  rw [← hA] at Y
  have hvm : s'.vm = s.vm := by rw [hA]; rfl
  have hhp : s'.heap = H := by rw [hA]; exact hT
  have hW0 : s.WarmedH s'.vm := by rw [hvm]; exact State.WarmedH.refl s
  have hat' : ∀ w ∈ vx_atS own ic cls names, w.before args s' = true := fun w hw => vx_ot_at hW0 hvm.symm (hgood w (List.mem_cons_of_mem _ (List.mem_cons_of_mem _ hw))) (hat w hw)
  have hk' : (Cond.classLink own ik cls).before args s' = true := vx_ot_at hW0 hvm.symm (hgood _ List.mem_cons_self) hk
  have hini' : (Cond.initialized cls).before args s' = true := vx_ot_at hW0 hvm.symm (hgood _ (List.mem_cons_of_mem _ List.mem_cons_self)) hini
  have hU' : vx_Zq Bundle.tN "UNASSIGNED_STACK" Bundle.steD A s' s'.heap := by rw [hhp]; exact vx_Zq.moved hW0.alike (hU.kept hS.2.1)
  have hN' : vx_Zq Bundle.tN "SUPPRESSED_SENTINEL" Bundle.listD A s' s'.heap := by rw [hhp]; exact vx_Zq.moved hW0.alike (hN.kept hS.2.1)
  have h : ∀ w ∈ Bundle.ownAtoms own ic cls names, w.before args s' = true := vx_own hat' (vx_isRefq hU'.1) (vx_isRefq hN'.1) hU'.2.word hN'.2.word
  have hown' : s'.vm.findClass own = some m.cls := by rw [hvm]; exact hown
  have hins : (Cond.instantiable cls 6).before args s' = true := h _ (by simp [Bundle.ownAtoms])
  obtain ⟨vm₁, cX, kX, hfX, hkX, -, -, X₁, st1⟩ := Y.newCold hexec (own := own) (C := cls) (index := ik) (n := 6) hown' hk' hins hini'
    (g := F0 m pc ls rest) rfl (by rw [hb]; exact d0) (Nat.le_refl _) (Nat.le_refl _)
  generalize hT1 : (T.setVm vm₁).pushCell { cls := cX, slots := kX.instanceTypes.map defaultValue, vm := .none } = T1 at X₁ st1
  have hcat : (Value.ref T.heap.size).category = 1 := rfl
  have hcellA : T1.heap[T.heap.size]? = some (freshCell cX kX) := by rw [← hT1]; exact State.heap_pushCell_size _ _
  have d3' : decode c.code (pc + 3) = .ok (.dup, 1) := by rw [hb]; exact d3
  have d4' : decode c.code (pc + 4) = .ok (.ldc_w is, 3) := by rw [hb]; exact d4
  have hstr' : vk_R own is text sa s' := vk_R.warm hW0 hstr
  obtain ⟨U, hsteps, hrun, hend, hW, hsame, ce, hce, hO⟩ := X₁.ctorThrowS hexec htr (own := own) (cls := cls) (names := names) (ic := ic) hown' hcls hnames h (fun x hx => nomatch hx) hfX hkX hcellA (by rw [hhp, hT]; exact Nat.le_refl _) (msg := .ref sa) rfl
    (g := { method := m, pc := pc + 7, locals := ls, stack := .ref sa :: .ref T.heap.size :: .ref T.heap.size :: rest, locked := none }) rfl hsize rfl rfl (rest := rest) rfl
    (by rw [hb]; exact d7) (by rw [hb]; exact d10) hout hRframes (by simp only [List.map_cons, List.sum_cons, hcat]; omega) hlocks
  obtain ⟨f1, f2⟩ := vx_frame hsame
  rw [hhp] at f1 f2
  have hWs : s.WarmedH U.vm := State.WarmedH.trans hW0 hW
  have hcl : s.vm.findClass cls = some ce.cls := by
    have h9 := hO.cls
    rw [hvm] at h9
    exact h9
  have hall : s.sameButNew ({ U with vm := s.vm } : State) locs mc ms := by
    subst hA
    obtain ⟨e1, e2⟩ := hsame
    rw [State.setFrames_setFrames] at e1
    have h2 : (T.setVm s.vm).sameButNew ({ U with vm := s.vm } : State) [] (0 + 1) (0 + 6) := ⟨e1, e2⟩
    have h3 := X.same.trans h2
    rw [List.append_nil] at h3
    exact h3.mono hc hs
  refine ⟨U, ?_, .threw T.heap.size, hrun, hend, Or.inr ⟨T.heap.size, rfl, cls, ce, locs, hx U hWs.alike f1 (fun q hq => f2 q hq (fun z hz => nomatch hz)), hce, hO.vm, hcl, hWs, hall, hf⟩⟩
  refine st1 _ ?_
  show Steps p.tables e below (T1.setTop { method := m, pc := pc + 3, locals := ls, stack := .ref T.heap.size :: rest, locked := none }) _
  jvm_step X₁.here [X₁.here.top, hexec, d3', Value.category]
  exact X₁.ldcStringW hexec (own := own) (text := text) (index := is) (a := sa) hown' hstr'.1 hstr'.2
    (g := { method := m, pc := pc + 4, locals := ls, stack := .ref T.heap.size :: .ref T.heap.size :: rest, locked := none }) rfl d4' _ hsteps
end Ends
section Bodies
variable {l : Launch}
theorem vx_ofW {y : MethodName} {ws ws' : List Cond} {rm : Room} {Pc : Array Value → State → Prop} {Qc : Array Value → State → Outcome → State → Prop} {XC : String → State → State → Prop} {mc ms : Nat} {free : Addr → Prop} {cc : ByteArray} {maxL : Nat} {ret : Option FieldType}
    (hy : plainName y.cls = true) (hw : ws = Cond.code y cc maxL ret :: ws')
    (body : ∀ p e s m args below meth c s₁, BodyLoose p l y (headSpec ws rm) cc maxL ret e s m args below meth c s₁ → c.maxLocals = maxL → (∀ x ∈ c.exceptionTable.toList, False) → Pc args s →
      W p l e (headSpec ws rm).room s m args below meth c s.heap [] 0 0 (vx_MQ below Qc XC args s mc ms free) (entryFrame m args maxL)) : vx_Met l y ws rm Pc Qc XC mc ms free := by
  refine MetFree.of_bodyS (code := cc) (maxLocals := maxL) (ret := ret) hy ?_ ?_
  · intro args s m h hn
    obtain ⟨meth, c, h1, h2, h3, h4, h5, h6, -, -⟩ := Cond.code_spec hn (atoms_spec (ws := ws) h _ (by rw [hw]; exact List.mem_cons_self))
    exact ⟨meth, c, h1, h2, h3, h4, h5, h6⟩
  · intro p e s m args below meth c s₁ B hml hP _
    have hh0 : s₁.heap = s.heap := by rw [B.state]; rfl
    have ht : ∀ x ∈ c.exceptionTable.toList, False := by
      obtain ⟨meth9, c9, h1, h2, -, -, -, -, h7, -⟩ := Cond.code_spec B.named (atoms_spec (ws := ws) B.pre _ (by rw [hw]; exact List.mem_cons_self))
      cases Option.some.inj (h1.symm.trans B.method)
      cases Option.some.inj (h2.symm.trans (Stand.of_body B).code)
      intro x hx
      rw [Array.isEmpty_iff.mp h7] at hx
      cases hx
    obtain ⟨t, a1, o, b1, b2, b3⟩ := body p e s m args below meth c s₁ B hml ht hP s₁ hh0 (Stand.of_body B)
    exact ⟨t, o, a1, b1, b2, b3⟩
/-- the table of a body with handlers -/
theorem vx_table {p : Program} {x y : MethodName} {S : Spec} {cc bytes : ByteArray} {maxL maxL' : Nat} {ret ret' : Option FieldType} {e : Env} {s s₁ : State} {m : MethodId} {args : Array Value} {below : List Frame} {meth : Method} {c : Code} {hh : List (Nat × Nat × Nat × Nat)}
    (B : BodyLoose p l y S cc maxL ret e s m args below meth c s₁) (h : (Cond.codeWith y bytes maxL' ret' hh).before args s = true) : c.exceptionTable.toList = tableOf hh := by
  obtain ⟨m9, meth9, c9, hn9, h1, h2, -, -, h6, -⟩ := Cond.codeWith_spec h
  cases Option.some.inj (hn9.symm.trans B.named)
  cases Option.some.inj (h1.symm.trans B.method)
  cases Option.some.inj (h2.symm.trans (Stand.of_body B).code)
  rw [← h6, table_eq]
end Bodies
end VXA
/-! ===== END ===== -/
/-! ===== BEGIN a static call of a method with an exception table ===== -/
section VXS
variable {p : Program} {l : Launch} {e : Env} {R : Room} {s : State} {m : MethodId} {args : Array Value} {below : List Frame} {meth : Method} {c : Code} {T : State} {H : Heap} {locs : List Loc} {cells slots : Nat}
abbrev vx_CSW (R : Room) (s : State) (args : Array Value) (own : String) (index : Nat) (y : MethodName) (bytes : ByteArray) (maxL : Nat) (ret : Option FieldType) (hh : List (Nat × Nat × Nat × Nat)) (ws : List Cond) (rm : Room) (mc ms n : Nat) : Prop :=
  (rm.cells = mc ∧ rm.slots = ms ∧ rm.frames + 1 ≤ R.frames ∧ 8 + (maxL + 11) + rm.locals ≤ R.locals ∧ (∀ w ∈ ws, ∀ (a' : Array Value) (U : State), s.WarmedH U.vm → w.before a' U = true) ∧ Cond.codeWith y bytes maxL ret hh ∈ ws) ∧
  (Cond.codeWith y bytes maxL ret hh).before args s = true ∧ (Cond.initialized y.cls).before args s = true ∧ (y.cls ≠ "java/lang/invoke/MethodHandle" ∧ y.cls ≠ "java/lang/invoke/VarHandle") ∧
  (∀ sig, parseMethodDescriptor y.desc = some sig → n = sig.parameters.length) ∧ (Cond.methodLink own index y).before args s = true ∧ (Cond.static y).before args s = true
theorem vx_cwSW {own : String} {index maxL mc ms : Nat} {y : MethodName} {bytes : ByteArray} {ret : Option FieldType} {hh : List (Nat × Nat × Nat × Nat)} {Ts ws ws' : List Cond} {rm : Room} (n : Nat) (ht : ∀ w ∈ Ts, w.before args s = true) (hT : GoodIn Ts (va_wsS own index y ws)) (hw : ws = Cond.codeWith y bytes maxL ret hh :: ws') (hrc : rm.cells = mc) (hrs : rm.slots = ms)
    (hd : y.cls ≠ "java/lang/invoke/MethodHandle" ∧ y.cls ≠ "java/lang/invoke/VarHandle" ∧ (parseMethodDescriptor y.desc).map (fun d => d.parameters.length) = some n) (hR : rm.frames + 1 ≤ R.frames ∧ 8 + (maxL + 11) + rm.locals ≤ R.locals) :
    vx_CSW R s args own index y bytes maxL ret hh ws rm mc ms n := by
  have ok : ∀ w ∈ va_wsS own index y ws, w.before args s = true := fun w h => ht w (hT w h).1
  have hG : GoodIn Ts ws := fun w h => hT w (by unfold va_wsS; exact List.mem_append_right _ h)
  have hc : Cond.codeWith y bytes maxL ret hh ∈ ws := by rw [hw]; exact List.mem_cons_self
  refine ⟨⟨hrc, hrs, hR.1, hR.2, pay_in ht hG, hc⟩, ht _ (hG _ hc).1, ok _ (by simp [va_wsS]), ⟨hd.1, hd.2.1⟩, fun sig h => ?_, ok _ (by simp [va_wsS]), ok _ (by simp [va_wsS])⟩
  have h2 := hd.2.2
  rw [h] at h2
  exact (Option.some.inj h2).symm
theorem vx_callSW (X : Stand p l e R s m args below meth c T locs cells slots) (hexec : p.tables.exec = Jvm.exec) {own : String} {index : Nat} {y : MethodName} {bytes : ByteArray} {maxL : Nat} {ret : Option FieldType} {hh : List (Nat × Nat × Nat × Nat)}
    (hown : s.vm.findClass own = some m.cls) (hlink : (Cond.methodLink own index y).before args s = true) (hstat : (Cond.static y).before args s = true) (hinit : (Cond.initialized y.cls).before args s = true)
    (hcode : (Cond.codeWith y bytes maxL ret hh).before args s = true) (hy : y.cls ≠ "java/lang/invoke/MethodHandle" ∧ y.cls ≠ "java/lang/invoke/VarHandle")
    {W9 : Nat} {Pre : Pt → Array Value → Prop} {Post : Pt → Array Value → Option Value → Pt → Prop} (hK : Back l R p e below s args y 3 W9 Pre Post)
    {g : JFrame} (hg : g.method = m) (hsize : g.locals.size = c.maxLocals) {argsL rest : List Value} (hlen : ∀ sig, parseMethodDescriptor y.desc = some sig → argsL.length = sig.parameters.length)
    (hstack : g.stack = argsL.reverse ++ rest) (hW : 2 * g.monitorRoom + (rest.map fun v => v.category).sum ≤ W9) (hdg : decode c.code g.pc = .ok (.invokestatic index, 3))
    (hpre : ∀ vm₁, s.WarmedH vm₁ → Pre ⟨T.setVm vm₁, locs, cells, slots⟩ argsL.toArray) :
    ∃ (v : Option Value) (vm₁ : Vm) (B : Pt), s.WarmedH vm₁ ∧ Stand p l e R s m args below meth c B.U B.locs B.cells B.slots ∧ Post ⟨T.setVm vm₁, locs, cells, slots⟩ argsL.toArray v B ∧
      ∀ target, Steps p.tables e below (B.U.setTop { g with pc := g.pc + 3, stack := v.toList ++ rest }) target → Steps p.tables e below (T.setTop g) target := by
  obtain ⟨mk, methM, cM, hnamed, hmethM, -, -, -, -, -, -, hsigM⟩ := Cond.codeWith_spec hcode
  have hstatic : methM.isStatic = true := Cond.static_spec hnamed hmethM hstat
  obtain ⟨kP, hkP, -⟩ := className_of_methodNamed hnamed
  have hinitP : kP.init = .initialized := Cond.initialized_spec (findClass_of_methodNamed hnamed) hkP hinit
  obtain ⟨vm₁, X₁, hstep₁⟩ := X.invokestatic hexec hown hlink hnamed hmethM hstatic hkP hinitP hy (g := g) hg (argsL := argsL) (rest := rest) (hlen _ hsigM) hstack hdg
  obtain ⟨v, B, X', hpost, hsteps⟩ := hK m meth c ⟨T.setVm vm₁, locs, cells, slots⟩ { g with stack := rest } (.invokestatic index) mk argsL.toArray X₁ hg hsize hdg hW (X₁.named hnamed) (hpre vm₁ X₁.warmed)
  exact ⟨v, vm₁, B, X₁.warmed, X', hpost, fun target h => hstep₁ _ fun acts => by rw [doInvoke_state]; exact hsteps.trans h⟩
theorem vx_runSW {y : MethodName} {bytes cc : ByteArray} {maxL nL mc ms n index : Nat} {ret : Option FieldType} {hh : List (Nat × Nat × Nat × Nat)} {ws : List Cond} {rm : Room} {Pc : Array Value → State → Prop} {Qc : Array Value → State → Outcome → State → Prop} {free : Addr → Prop} {Ts : List Cond} {own : String} {As rest : List Value} {g : JFrame}
    (S : CallFix p m c cc nL s args Ts own) (hM : Met l y ws rm Pc Qc mc ms free) (cw : vx_CSW R s args own index y bytes maxL ret hh ws rm mc ms n) (hp : PreS s H Pc As)
    (hg : g.method = m) (hn : As.length = n) (hsize : g.locals.size = nL) (hstack : g.stack = As.reverse ++ rest) (hW : 2 * g.monitorRoom + (rest.map fun v => v.category).sum ≤ 8) (hdg : decode cc g.pc = .ok (.invokestatic index, 3)) (hf : cells + mc ≤ R.cells ∧ slots + ms ≤ R.slots) :
    va_Run p l e R s m args below meth c H locs cells slots mc ms g rest (Qc As.toArray) (free) := by
  obtain ⟨⟨hrc, hrs, hfr, hlo, hws, hcw⟩, hcode, hini, hy, hlen, hl, hstt⟩ := cw
  have hK : Back l R p e below s args y 3 8 (PreOf R mc ms Pc) (PostOf Qc mc ms free) := va_backW (hh := hh) (bytes := bytes) (maxL := maxL) (ret := ret) hM hp.1 hrc hrs hfr hlo hws hcw (fun a' U hW => word_at hW (Or.inl (by first | rfl | simp [Cond.onTables, Cond.keeps, Cond.steady])) hini)
  obtain ⟨hx, hb, hml, ho, -⟩ := S
  intro T hT X
  obtain ⟨v, vm₁, ⟨U', l2, c2, s2⟩, hW₁, X', ⟨g', mk, t, L, e1, e2, hq, h1, hL, h2, h3⟩, st⟩ := vx_callSW X hx (hh := hh) (bytes := bytes) (maxL := maxL) (ret := ret) ho hl hstt hini hcode hy hK hg (hsize.trans hml.symm) (argsL := As) (rest := rest) (fun sig h => hn.trans (hlen sig h)) hstack hW (by rw [hb]; exact hdg)
    (fun vm₁ hW₁ => ⟨hf.1, hf.2, hp.2 (T.setVm vm₁) hT hW₁⟩)
  dsimp only [Pt.U, Pt.locs, Pt.cells, Pt.slots] at X' e1 e2 h1 h2 h3 st
  subst h1; subst h2; subst h3
  exact ⟨v, (T.setVm vm₁).calling g' mk As.toArray, t, U', L, hT, X', hL, e1, e2, hq, st⟩
/-- not caught here, past rows that name other classes: it goes on to the caller -/
theorem vx_outP {p : Program} {l : Launch} {e : Env} {R : Room} {s : State} {m : MethodId} {args : Array Value} {below : List Frame} {meth : Method} {c : Code} {H : Heap} {locs : List Loc} {cells slots : Nat} {free : Addr → Prop} {ls : Array Slot} {rest : List Value} {Qc : Array Value → State → Outcome → State → Prop} {XC : String → State → State → Prop}
    {pc : Nat} {own E : String} {ce : Cell} {q : Addr} {mc ms : Nat} (hown : s.vm.findClass own = some m.cls) (hlocks : meth.locks = false)
    (hpass : ∀ z ∈ c.exceptionTable.toList, covers z pc = false ∨ (z.catchType ≠ 0 ∧ ∃ nm : String, (Cond.classLink own z.catchType nm).before args s = true ∧ va_Nc E nm s)) (hcell : H[q]? = some ce) (hv : ce.vm = .none) (hcl : s.vm.findClass E = some ce.cls)
    (hx : ∀ t : State, t.heap = H → s.vm.Alike t.vm → XC E s t) (hf : ∀ z ∈ locs, free z.base) (hc : cells ≤ mc) (hs : slots ≤ ms) :
    vx_W p l e R s m args below meth c H locs cells slots (vx_MQ below Qc XC args s mc ms free) (F0 m pc ls rest) q := by
  intro T hT X
  have hpl : e.platform.magicAccessors = ({} : Platform).magicAccessors := by rw [X.admits.platform]
  obtain ⟨vm', hW', X', st⟩ := X.outThrough hlocks q (g := F0 m pc ls rest) rfl rfl rfl (cell := ce) (by rw [hT]; exact hcell) (by rw [hv]; rfl)
    (by obtain ⟨k9, h9, -⟩ := Vm.findClass_spec hcl; exact ⟨k9, h9⟩) (fun z hz => by
      rcases hpass z hz with h | ⟨hz0, nm, hl1, hn1⟩
      · exact Or.inl h
      · obtain ⟨c6, hc6, hcl6⟩ := Cond.classLink_spec hown hl1 e.platform hpl
        obtain ⟨a8, b8, h1, h2, h3⟩ := hn1
        cases Option.some.inj (h1.symm.trans hcl)
        cases Option.some.inj (h2.symm.trans hc6)
        exact Or.inr ⟨hz0, _, hcl6, h3⟩)
  obtain ⟨g₀, hfr⟩ := X'.frames_eq
  have hcell9 : ((T.setVm vm').setFrames (.throwing q :: below)).heap[q]? = some ce := by
    show T.heap[q]? = some ce
    rw [hT]; exact hcell
  have hend : Ended ((T.setVm vm').setFrames (.throwing q :: below)) below (.threw q) := State.frames_setFrames _ (State.cur_lt_of_frames hfr)
  refine ⟨(T.setVm vm').setFrames (.throwing q :: below), ?_, .threw q, X'.here.running, hend, Or.inr ⟨q, rfl, E, ce, locs, hx _ hT (X'.ends _).1.alike, hcell9, hv, hcl, (X'.ends _).1, (X'.ends _).2.mono hc hs, hf⟩⟩
  rw [X.pushThrowing_eq]
  exact st
/-- a thing of a world lies in the heap -/
theorem vx_lt {D : va_G} {cl : List vw_C} {ws : va_W} {H1 : Heap} (h : va_P D cl ws H1) {k : Nat} {q : Nat × va_E} (hk : ws[k]? = some q) : q.1 < H1.size := (h k q hk).lt
end VXS
/-! ===== END ===== -/
/-! ===== BEGIN methods with a table of their own: called by a name, returning or throwing ===== -/
section VXH
/-! vx_backW, vx_callVX, vx_callSX, vx_callVW, vx_runVW, vx_runVX, vx_runSX, vx_ofWH follow the same proofs as their sisters above (Free/Laws.lean, Shelf42/LK1.lean); vx_outP calls Shelf42/NT130.lean (outThrough). -/
section
variable {l : Launch} {R : Room} {p : Program} {e : Env} {below : List Frame} {s : State} {sargs : Array Value} {y : MethodName} {len W9 : Nat}
theorem vx_backW {ws : List Cond} {rm : Room} {Pc : Array Value → State → Prop} {Qc : Array Value → State → Outcome → State → Prop} {XC : String → State → State → Prop} {mc ms : Nat} {free : Addr → Prop} {bytes : ByteArray} {maxL : Nat} {ret : Option FieldType} {hh : List (Nat × Nat × Nat × Nat)}
    (hM : vx_Met l y ws rm Pc Qc XC mc ms free) (hblind : FrameBlind Pc) (hrc : rm.cells = mc) (hrs : rm.slots = ms)
    (hframes : rm.frames + 1 ≤ R.frames) (hlocals : W9 + (maxL + 11) + rm.locals ≤ R.locals)
    (hws : ∀ w ∈ ws, ∀ a' U, s.WarmedH U.vm → w.before a' U = true) (hcode : Cond.codeWith y bytes maxL ret hh ∈ ws) (hinit : ∀ a' U, s.WarmedH U.vm → (Cond.initialized y.cls).before a' U = true) :
    vx_Back l R p e below s sargs y len W9 (PreOf R mc ms Pc) (PostOf Qc mc ms free) (vx_Post XC mc ms free) := by
  intro m meth c A g ig mk a X hg hsize hdg hW hn hp
  have h1 : (headSpec ws rm).pre.before a A.U = true := atoms_intro fun w hw => hws w hw _ _ X.warmed
  have h2 : (Cond.codeWith y bytes maxL ret hh).before a A.U = true := hws _ hcode _ _ X.warmed
  have h3 : (Cond.initialized y.cls).before a A.U = true := hinit _ _ X.warmed
  have h4 : A.cells + (headSpec ws rm).room.cells ≤ R.cells := by rw [show (headSpec ws rm).room.cells = mc from hrc]; exact hp.1
  have h5 : A.slots + (headSpec ws rm).room.slots ≤ R.slots := by rw [show (headSpec ws rm).room.slots = ms from hrs]; exact hp.2.1
  have hPc : Pc a (A.U.calling g mk a) := hblind _ _ _ _ hp.2.2
  obtain ⟨U, Ls, c0, s0⟩ := A
  dsimp only [Pt.U, Pt.locs, Pt.cells, Pt.slots] at h1 h2 h3 h4 h5 X hn hPc ⊢
  obtain ⟨m9, methY, cY, hn9, hmY, hcY, -, hlY, -⟩ := Cond.codeWith_spec h2
  cases Option.some.inj (hn9.symm.trans hn)
  obtain ⟨kY, hkY, -⟩ := className_of_methodNamed hn
  have hinitY : kY.init = .initialized := Cond.initialized_spec (findClass_of_methodNamed hn) hkY h3
  have h : At U g.method c below := by rw [hg]; exact X.here
  have hlocals9 : W9 + (maxL + 11) + (headSpec ws rm).room.locals ≤ R.locals := hlocals
  have happ : (headSpec ws rm).appliesLoose y e.platform (U.calling g mk a) = true :=
    Spec.appliesLoose_calling (g := g) h hdg hn hkY hinitY
      (X.room_calling (g := g) (R' := (headSpec ws rm).room) hsize hmY hcY hframes (by rw [hlY]; omega) h4 h5) h1
  obtain ⟨mid, hmid⟩ := h.above
  have hfr : (U.setTop g).frames = (.java g :: mid) ++ below := by rw [State.frames_setTop' g h.top, hmid]; rfl
  obtain ⟨o, s₂, hsteps, -, hend, hq⟩ := Steps.callFree hM p X.admits X.cas X.clock (acts := []) hfr happ hPc trivial
  have hq' : vx_Q Qc XC mc ms free a (U.calling g mk a) o s₂ := hq
  rw [State.frames_setTop' g h.top] at hend
  obtain ⟨g₀, hg0⟩ := Option.isSome_iff_exists.mp h.top
  obtain ⟨r, hr⟩ := State.topJava?_eq_some.mp hg0
  have hr' : (({ U with heap := s₂.heap, slotsUsed := s₂.slotsUsed } : State).setVm s₂.vm).frames = .java g₀ :: r := hr
  rcases hq' with ⟨hqc, L, hfe, hL⟩ | ⟨q, rfl, E, ce, L, hx, hce, hcv, hcl, hW₂, hsm, hL⟩
  · obtain ⟨⟨v, rfl⟩, hW₂, e2, q2, q3, q4, q5, q6⟩ := id hfe
    have e3 : s₂ = ({ (U.calling g mk a).setFrames s₂.frames with heap := s₂.heap, slotsUsed := s₂.slotsUsed } : State).setVm s₂.vm := by
      have : s₂ = ({ s₂ with vm := (U.calling g mk a).vm } : State).setVm s₂.vm := rfl
      rw [e2] at this
      exact this
    obtain ⟨c₂, i₂, len₂, hc₂, hd₂, hf₂⟩ := hend
    have hW' : U.WarmedH s₂.vm := hW₂
    have hcc : c₂ = c := by
      have h1 : s₂.code? g.method = U.code? g.method := by
        rw [State.code?_eq, State.code?_eq, hW'.alike.method?]
      exact Option.some.inj (hc₂.symm.trans (h1.trans h.code))
    subst hcc
    have hlen : len₂ = len := by rw [hdg] at hd₂; cases hd₂; rfl
    subst hlen
    have hs₂ : s₂ = (({ U with heap := s₂.heap, slotsUsed := s₂.slotsUsed } : State).setVm s₂.vm).setTop { g with pc := g.pc + len₂, stack := v.toList ++ g.stack } := by
      refine e3.trans ?_
      rw [hf₂, State.calling_eq h.top, State.setFrames_setFrames, State.setTop_of_frames _ hr', hr]
      rfl
    have hsame : U.sameButNew ({ U with heap := s₂.heap, slotsUsed := s₂.slotsUsed } : State) L mc ms := by
      refine ⟨?_, q2, q3, q4, q5, q6⟩
      obtain ⟨t, ht, -⟩ := State.frames_cons hr
      show ({ U with heap := s₂.heap, slotsUsed := s₂.slotsUsed } : State) = { U.setFrames U.frames with heap := s₂.heap, slotsUsed := s₂.slotsUsed }
      rw [State.setFrames_self ht]
    subst hg
    refine Or.inl ⟨v, ⟨(({ U with heap := s₂.heap, slotsUsed := s₂.slotsUsed } : State).setVm s₂.vm), Ls ++ L, c0 + mc, s0 + ms⟩,
      ⟨X.admits, X.cas, X.clock, X.frames, X.room, X.hears, X.method, X.code, (X.here.setHeapUsed s₂.heap s₂.slotsUsed).setVm hW'.alike, X.tail, State.WarmedH.trans X.warmed hW', X.limits, X.bytes, X.same.trans (hsame.setVm s.vm)⟩,
      ⟨g, mk, s₂, L, rfl, rfl, hqc, rfl, hL, rfl, rfl⟩, ?_⟩
    show Steps p.tables e below _ ((({ U with heap := s₂.heap, slotsUsed := s₂.slotsUsed } : State).setVm s₂.vm).setTop { g with pc := g.pc + len₂, stack := v.toList ++ g.stack })
    rw [← hs₂]
    exact hsteps
  · obtain ⟨e2, q2, q3, q4, q5, q6⟩ := id hsm
    have e3 : s₂ = ({ (U.calling g mk a).setFrames s₂.frames with heap := s₂.heap, slotsUsed := s₂.slotsUsed } : State).setVm s₂.vm := by
      have : s₂ = ({ s₂ with vm := (U.calling g mk a).vm } : State).setVm s₂.vm := rfl
      rw [e2] at this
      exact this
    have hf₂ : s₂.frames = .throwing q :: .java g :: U.frames.tail := hend
    have hW' : U.WarmedH s₂.vm := hW₂
    have hs₂ : s₂ = ((({ U with heap := s₂.heap, slotsUsed := s₂.slotsUsed } : State).setVm s₂.vm).setTop g).pushFrame (.throwing q) := by
      refine e3.trans ?_
      rw [hf₂, State.calling_eq h.top, State.setFrames_setFrames, State.pushFrame, State.frames_setTop _ hr', State.setTop_of_frames _ hr', State.setFrames_setFrames, hr]
      rfl
    have hsame : U.sameButNew ({ U with heap := s₂.heap, slotsUsed := s₂.slotsUsed } : State) L mc ms := by
      refine ⟨?_, q2, q3, q4, q5, q6⟩
      obtain ⟨t, ht, -⟩ := State.frames_cons hr
      show ({ U with heap := s₂.heap, slotsUsed := s₂.slotsUsed } : State) = { U.setFrames U.frames with heap := s₂.heap, slotsUsed := s₂.slotsUsed }
      rw [State.setFrames_self ht]
    subst hg
    refine Or.inr ⟨q, ⟨(({ U with heap := s₂.heap, slotsUsed := s₂.slotsUsed } : State).setVm s₂.vm), Ls ++ L, c0 + mc, s0 + ms⟩,
      ⟨X.admits, X.cas, X.clock, X.frames, X.room, X.hears, X.method, X.code, (X.here.setHeapUsed s₂.heap s₂.slotsUsed).setVm hW'.alike, X.tail, State.WarmedH.trans X.warmed hW', X.limits, X.bytes, X.same.trans (hsame.setVm s.vm)⟩,
      ⟨g, mk, s₂, L, E, ce, rfl, rfl, hx, hce, hcv, hcl, rfl, hL, rfl, rfl⟩, ?_⟩
    show Steps p.tables e below _ (((({ U with heap := s₂.heap, slotsUsed := s₂.slotsUsed } : State).setVm s₂.vm).setTop g).pushFrame (.throwing q))
    rw [← hs₂]
    exact hsteps
end
variable {p : Program} {l : Launch} {e : Env} {R : Room} {s : State} {m : MethodId} {args : Array Value} {below : List Frame} {meth : Method} {c : Code} {T : State} {H : Heap} {locs : List Loc} {cells slots : Nat}
theorem vx_callVX (X : Stand p l e R s m args below meth c T locs cells slots) (hexec : p.tables.exec = Jvm.exec) {own C : String} {index : Nat} {y : MethodName} {bytes : ByteArray} {maxL : Nat} {ret : Option FieldType} {hh : List (Nat × Nat × Nat × Nat)}
    (hown : s.vm.findClass own = some m.cls) (hlink : (Cond.methodLink own index y).before args s = true) (hinst : (Cond.instanceMethod y).before args s = true) (hsel : (Cond.selects C y y).before args s = true)
    (hcode : (Cond.codeWith y bytes maxL ret hh).before args s = true) (hy : y.cls ≠ "java/lang/invoke/MethodHandle" ∧ y.cls ≠ "java/lang/invoke/VarHandle")
    {W9 : Nat} {Pre : Pt → Array Value → Prop} {Post : Pt → Array Value → Option Value → Pt → Prop} {PostX : Pt → Array Value → Addr → Pt → Prop} (hK : vx_Back l R p e below s args y 3 W9 Pre Post PostX)
    {b : Addr} {cellB : Cell} (hcell : T.heap[b]? = some cellB) (hobj : cellB.vm.isStatics = false) (hcls : s.vm.findClass C = some cellB.cls)
    {g : JFrame} (hg : g.method = m) (hsize : g.locals.size = c.maxLocals) {argsL rest : List Value} (hlen : ∀ sig, parseMethodDescriptor y.desc = some sig → argsL.length = sig.parameters.length)
    (hstack : g.stack = argsL.reverse ++ .ref b :: rest) (hW : 2 * g.monitorRoom + (rest.map fun v => v.category).sum ≤ W9) (hdg : decode c.code g.pc = .ok (.invokevirtual index, 3))
    (hpre : ∀ vm₁, s.WarmedH vm₁ → Pre ⟨T.setVm vm₁, locs, cells, slots⟩ (Value.ref b :: argsL).toArray) :
    (∃ (v : Option Value) (vm₁ : Vm) (B : Pt), s.WarmedH vm₁ ∧ Stand p l e R s m args below meth c B.U B.locs B.cells B.slots ∧ Post ⟨T.setVm vm₁, locs, cells, slots⟩ (Value.ref b :: argsL).toArray v B ∧
      ∀ target, Steps p.tables e below (B.U.setTop { g with pc := g.pc + 3, stack := v.toList ++ rest }) target → Steps p.tables e below (T.setTop g) target) ∨
    (∃ (q : Addr) (vm₁ : Vm) (B : Pt), s.WarmedH vm₁ ∧ Stand p l e R s m args below meth c B.U B.locs B.cells B.slots ∧ PostX ⟨T.setVm vm₁, locs, cells, slots⟩ (Value.ref b :: argsL).toArray q B ∧
      Steps p.tables e below (T.setTop g) ((B.U.setTop { g with stack := rest }).pushFrame (.throwing q))) := by
  obtain ⟨mk, methM, hnamed, hmethM, hstM, habM⟩ := Cond.instanceMethod_spec hinst
  obtain ⟨m8, methM', cM, hn8, hmethM', -, -, -, -, -, -, hsigM⟩ := Cond.codeWith_spec hcode
  cases Option.some.inj (hn8.symm.trans hnamed)
  cases hmethM.symm.trans hmethM'
  obtain ⟨c2, r2, m2, q1, q2, q3, q4, kP, hkP, hkPi⟩ := Cond.selects_spec hsel
  cases hcls.symm.trans q1
  cases (State.methodFound?_of_named hnamed hy).symm.trans q2
  cases hnamed.symm.trans q3
  have hselP : selectMethod e.platform s.vm cellB.cls mk = .method mk := by rw [Launch.admits_selectMethod X.admits]; exact q4
  obtain ⟨vm₁, X₁, hstep₁⟩ := X.invokevirtual hexec hown hlink hnamed hmethM hstM hkP hkPi hy (a := b) (cell := cellB) hcell
    (fun z h => by rw [h] at hobj; cases hobj) hselP hmethM habM hkP hkPi (g := g) hg (argsL := argsL) (rest := rest) (hlen _ hsigM) hstack hdg
  rcases hK m meth c ⟨T.setVm vm₁, locs, cells, slots⟩ { g with stack := rest } (.invokevirtual index) mk (Value.ref b :: argsL).toArray X₁ hg hsize hdg hW (X₁.named hnamed) (hpre vm₁ X₁.warmed) with ⟨v, B, X', hpost, hsteps⟩ | ⟨q, B, X', hpost, hsteps⟩
  · exact Or.inl ⟨v, vm₁, B, X₁.warmed, X', hpost, fun target h => hstep₁ _ fun acts => by rw [doInvoke_state]; exact hsteps.trans h⟩
  · exact Or.inr ⟨q, vm₁, B, X₁.warmed, X', hpost, hstep₁ _ fun acts => by rw [doInvoke_state]; exact hsteps⟩
theorem vx_callSX (X : Stand p l e R s m args below meth c T locs cells slots) (hexec : p.tables.exec = Jvm.exec) {own : String} {index : Nat} {y : MethodName} {bytes : ByteArray} {maxL : Nat} {ret : Option FieldType} {hh : List (Nat × Nat × Nat × Nat)}
    (hown : s.vm.findClass own = some m.cls) (hlink : (Cond.methodLink own index y).before args s = true) (hstat : (Cond.static y).before args s = true) (hinit : (Cond.initialized y.cls).before args s = true)
    (hcode : (Cond.codeWith y bytes maxL ret hh).before args s = true) (hy : y.cls ≠ "java/lang/invoke/MethodHandle" ∧ y.cls ≠ "java/lang/invoke/VarHandle")
    {W9 : Nat} {Pre : Pt → Array Value → Prop} {Post : Pt → Array Value → Option Value → Pt → Prop} {PostX : Pt → Array Value → Addr → Pt → Prop} (hK : vx_Back l R p e below s args y 3 W9 Pre Post PostX)
    {g : JFrame} (hg : g.method = m) (hsize : g.locals.size = c.maxLocals) {argsL rest : List Value} (hlen : ∀ sig, parseMethodDescriptor y.desc = some sig → argsL.length = sig.parameters.length)
    (hstack : g.stack = argsL.reverse ++ rest) (hW : 2 * g.monitorRoom + (rest.map fun v => v.category).sum ≤ W9) (hdg : decode c.code g.pc = .ok (.invokestatic index, 3))
    (hpre : ∀ vm₁, s.WarmedH vm₁ → Pre ⟨T.setVm vm₁, locs, cells, slots⟩ argsL.toArray) :
    (∃ (v : Option Value) (vm₁ : Vm) (B : Pt), s.WarmedH vm₁ ∧ Stand p l e R s m args below meth c B.U B.locs B.cells B.slots ∧ Post ⟨T.setVm vm₁, locs, cells, slots⟩ argsL.toArray v B ∧
      ∀ target, Steps p.tables e below (B.U.setTop { g with pc := g.pc + 3, stack := v.toList ++ rest }) target → Steps p.tables e below (T.setTop g) target) ∨
    (∃ (q : Addr) (vm₁ : Vm) (B : Pt), s.WarmedH vm₁ ∧ Stand p l e R s m args below meth c B.U B.locs B.cells B.slots ∧ PostX ⟨T.setVm vm₁, locs, cells, slots⟩ argsL.toArray q B ∧
      Steps p.tables e below (T.setTop g) ((B.U.setTop { g with stack := rest }).pushFrame (.throwing q))) := by
  obtain ⟨mk, methM, cM, hnamed, hmethM, -, -, -, -, -, -, hsigM⟩ := Cond.codeWith_spec hcode
  have hstatic : methM.isStatic = true := Cond.static_spec hnamed hmethM hstat
  obtain ⟨kP, hkP, -⟩ := className_of_methodNamed hnamed
  have hinitP : kP.init = .initialized := Cond.initialized_spec (findClass_of_methodNamed hnamed) hkP hinit
  obtain ⟨vm₁, X₁, hstep₁⟩ := X.invokestatic hexec hown hlink hnamed hmethM hstatic hkP hinitP hy (g := g) hg (argsL := argsL) (rest := rest) (hlen _ hsigM) hstack hdg
  rcases hK m meth c ⟨T.setVm vm₁, locs, cells, slots⟩ { g with stack := rest } (.invokestatic index) mk argsL.toArray X₁ hg hsize hdg hW (X₁.named hnamed) (hpre vm₁ X₁.warmed) with ⟨v, B, X', hpost, hsteps⟩ | ⟨q, B, X', hpost, hsteps⟩
  · exact Or.inl ⟨v, vm₁, B, X₁.warmed, X', hpost, fun target h => hstep₁ _ fun acts => by rw [doInvoke_state]; exact hsteps.trans h⟩
  · exact Or.inr ⟨q, vm₁, B, X₁.warmed, X', hpost, hstep₁ _ fun acts => by rw [doInvoke_state]; exact hsteps⟩
theorem vx_callVW (X : Stand p l e R s m args below meth c T locs cells slots) (hexec : p.tables.exec = Jvm.exec) {own C : String} {index : Nat} {y : MethodName} {bytes : ByteArray} {maxL : Nat} {ret : Option FieldType} {hh : List (Nat × Nat × Nat × Nat)}
    (hown : s.vm.findClass own = some m.cls) (hlink : (Cond.methodLink own index y).before args s = true) (hinst : (Cond.instanceMethod y).before args s = true) (hsel : (Cond.selects C y y).before args s = true)
    (hcode : (Cond.codeWith y bytes maxL ret hh).before args s = true) (hy : y.cls ≠ "java/lang/invoke/MethodHandle" ∧ y.cls ≠ "java/lang/invoke/VarHandle")
    {W9 : Nat} {Pre : Pt → Array Value → Prop} {Post : Pt → Array Value → Option Value → Pt → Prop} (hK : Back l R p e below s args y 3 W9 Pre Post)
    {b : Addr} {cellB : Cell} (hcell : T.heap[b]? = some cellB) (hobj : cellB.vm.isStatics = false) (hcls : s.vm.findClass C = some cellB.cls)
    {g : JFrame} (hg : g.method = m) (hsize : g.locals.size = c.maxLocals) {argsL rest : List Value} (hlen : ∀ sig, parseMethodDescriptor y.desc = some sig → argsL.length = sig.parameters.length)
    (hstack : g.stack = argsL.reverse ++ .ref b :: rest) (hW : 2 * g.monitorRoom + (rest.map fun v => v.category).sum ≤ W9) (hdg : decode c.code g.pc = .ok (.invokevirtual index, 3))
    (hpre : ∀ vm₁, s.WarmedH vm₁ → Pre ⟨T.setVm vm₁, locs, cells, slots⟩ (Value.ref b :: argsL).toArray) :
    ∃ (v : Option Value) (vm₁ : Vm) (B : Pt), s.WarmedH vm₁ ∧ Stand p l e R s m args below meth c B.U B.locs B.cells B.slots ∧ Post ⟨T.setVm vm₁, locs, cells, slots⟩ (Value.ref b :: argsL).toArray v B ∧
      ∀ target, Steps p.tables e below (B.U.setTop { g with pc := g.pc + 3, stack := v.toList ++ rest }) target → Steps p.tables e below (T.setTop g) target := by
  obtain ⟨mk, methM, hnamed, hmethM, hstM, habM⟩ := Cond.instanceMethod_spec hinst
  obtain ⟨m8, methM', cM, hn8, hmethM', -, -, -, -, -, -, hsigM⟩ := Cond.codeWith_spec hcode
  cases Option.some.inj (hn8.symm.trans hnamed)
  cases hmethM.symm.trans hmethM'
  obtain ⟨c2, r2, m2, q1, q2, q3, q4, kP, hkP, hkPi⟩ := Cond.selects_spec hsel
  cases hcls.symm.trans q1
  cases (State.methodFound?_of_named hnamed hy).symm.trans q2
  cases hnamed.symm.trans q3
  have hselP : selectMethod e.platform s.vm cellB.cls mk = .method mk := by rw [Launch.admits_selectMethod X.admits]; exact q4
  obtain ⟨vm₁, X₁, hstep₁⟩ := X.invokevirtual hexec hown hlink hnamed hmethM hstM hkP hkPi hy (a := b) (cell := cellB) hcell
    (fun z h => by rw [h] at hobj; cases hobj) hselP hmethM habM hkP hkPi (g := g) hg (argsL := argsL) (rest := rest) (hlen _ hsigM) hstack hdg
  obtain ⟨v, B, X', hpost, hsteps⟩ := hK m meth c ⟨T.setVm vm₁, locs, cells, slots⟩ { g with stack := rest } (.invokevirtual index) mk (Value.ref b :: argsL).toArray X₁ hg hsize hdg hW (X₁.named hnamed) (hpre vm₁ X₁.warmed)
  exact ⟨v, vm₁, B, X₁.warmed, X', hpost, fun target h => hstep₁ _ fun acts => by rw [doInvoke_state]; exact hsteps.trans h⟩
abbrev vx_CVW (R : Room) (s : State) (args : Array Value) (own C : String) (index : Nat) (y : MethodName) (bytes : ByteArray) (maxL : Nat) (ret : Option FieldType) (hh : List (Nat × Nat × Nat × Nat)) (ws : List Cond) (rm : Room) (mc ms n : Nat) : Prop :=
  (rm.cells = mc ∧ rm.slots = ms ∧ rm.frames + 1 ≤ R.frames ∧ 8 + (maxL + 11) + rm.locals ≤ R.locals ∧ (∀ w ∈ ws, ∀ (a' : Array Value) (U : State), s.WarmedH U.vm → w.before a' U = true) ∧ Cond.codeWith y bytes maxL ret hh ∈ ws) ∧
  (Cond.codeWith y bytes maxL ret hh).before args s = true ∧ (Cond.initialized y.cls).before args s = true ∧ (y.cls ≠ "java/lang/invoke/MethodHandle" ∧ y.cls ≠ "java/lang/invoke/VarHandle") ∧
  (∀ sig, parseMethodDescriptor y.desc = some sig → n = sig.parameters.length) ∧ (Cond.methodLink own index y).before args s = true ∧ (Cond.instanceMethod y).before args s = true ∧ (Cond.selects C y y).before args s = true
theorem vx_cwVW {own C : String} {index maxL mc ms : Nat} {y : MethodName} {bytes : ByteArray} {ret : Option FieldType} {hh : List (Nat × Nat × Nat × Nat)} {Ts ws ws' : List Cond} {rm : Room} (n : Nat) (ht : ∀ w ∈ Ts, w.before args s = true) (hT : GoodIn Ts (wsV own index C y ws)) (hw : ws = Cond.codeWith y bytes maxL ret hh :: ws') (hrc : rm.cells = mc) (hrs : rm.slots = ms)
    (hd : y.cls = C ∧ y.cls ≠ "java/lang/invoke/MethodHandle" ∧ y.cls ≠ "java/lang/invoke/VarHandle" ∧ (parseMethodDescriptor y.desc).map (fun d => d.parameters.length) = some n) (hR : rm.frames + 1 ≤ R.frames ∧ 8 + (maxL + 11) + rm.locals ≤ R.locals) :
    vx_CVW R s args own C index y bytes maxL ret hh ws rm mc ms n := by
  obtain ⟨hC, hd⟩ := hd
  subst hC
  have ok : ∀ w ∈ wsV own index y.cls y ws, w.before args s = true := fun w h => ht w (hT w h).1
  have hG : GoodIn Ts ws := fun w h => hT w (by unfold wsV; exact List.mem_append_right _ h)
  have hc : Cond.codeWith y bytes maxL ret hh ∈ ws := by rw [hw]; exact List.mem_cons_self
  refine ⟨⟨hrc, hrs, hR.1, hR.2, pay_in ht hG, hc⟩, ht _ (hG _ hc).1, ok _ (by simp [wsV]), ⟨hd.1, hd.2.1⟩, fun sig h => ?_, ok _ (by simp [wsV]), ok _ (by simp [wsV]), ok _ (by simp [wsV])⟩
  have h2 := hd.2.2
  rw [h] at h2
  exact (Option.some.inj h2).symm
theorem vx_runVW {y : MethodName} {bytes cc : ByteArray} {maxL nL mc ms n index : Nat} {ret : Option FieldType} {hh : List (Nat × Nat × Nat × Nat)} {ws : List Cond} {rm : Room} {Pc : Array Value → State → Prop} {Qc : Array Value → State → Outcome → State → Prop} {free : Addr → Prop} {Ts : List Cond} {own C : String} {b : Addr} {As rest : List Value} {g : JFrame}
    (S : CallFix p m c cc nL s args Ts own) (hM : Met l y ws rm Pc Qc mc ms free) (cw : vx_CVW R s args own C index y bytes maxL ret hh ws rm mc ms n) (hp : PreV s H C b Pc As)
    (hg : g.method = m) (hn : As.length = n) (hsize : g.locals.size = nL) (hstack : g.stack = As.reverse ++ .ref b :: rest) (hW : 2 * g.monitorRoom + (rest.map fun v => v.category).sum ≤ 8) (hdg : decode cc g.pc = .ok (.invokevirtual index, 3)) (hf : cells + mc ≤ R.cells ∧ slots + ms ≤ R.slots) :
    va_Run p l e R s m args below meth c H locs cells slots mc ms g rest (Qc (Value.ref b :: As).toArray) free := by
  obtain ⟨⟨hrc, hrs, hfr, hlo, hws, hcw⟩, hcode, hini, hy, hlen, hl, hin, hse⟩ := cw
  have hK : Back l R p e below s args y 3 8 (PreOf R mc ms Pc) (PostOf Qc mc ms free) := va_backW (hh := hh) (bytes := bytes) (maxL := maxL) (ret := ret) hM hp.1 hrc hrs hfr hlo hws hcw (fun a' U hW => word_at hW (Or.inl (by first | rfl | simp [Cond.onTables, Cond.keeps, Cond.steady])) hini)
  obtain ⟨hx, hb, hml, ho, -⟩ := S
  obtain ⟨-, ⟨cellB, hcB, hoB, hclB⟩, hPc⟩ := hp
  intro T hT X
  obtain ⟨v, vm₁, ⟨U', l2, c2, s2⟩, hW₁, X', ⟨g', mk, t, L, e1, e2, hq, h1, hL, h2, h3⟩, st⟩ := vx_callVW X hx (C := C) (hh := hh) (bytes := bytes) (maxL := maxL) (ret := ret) ho hl hin hse hcode hy hK (by rw [hT]; exact hcB) hoB hclB hg (hsize.trans hml.symm) (argsL := As) (rest := rest) (fun sig h => hn.trans (hlen sig h)) hstack hW (by rw [hb]; exact hdg)
    (fun vm₁ hW₁ => ⟨hf.1, hf.2, hPc (T.setVm vm₁) hT hW₁⟩)
  dsimp only [Pt.U, Pt.locs, Pt.cells, Pt.slots] at X' e1 e2 h1 h2 h3 st
  subst h1; subst h2; subst h3
  exact ⟨v, (T.setVm vm₁).calling g' mk (Value.ref b :: As).toArray, t, U', L, hT, X', hL, e1, e2, hq, st⟩
section
variable {y : MethodName} {bytes cc : ByteArray} {maxL nL mc ms n index : Nat} {ret : Option FieldType} {ws : List Cond} {rm : Room} {Pc : Array Value → State → Prop} {Qc : Array Value → State → Outcome → State → Prop} {XC : String → State → State → Prop} {free : Addr → Prop} {Ts : List Cond} {own C : String} {b : Addr} {As rest : List Value} {g : JFrame}
theorem vx_runVX {hh : List (Nat × Nat × Nat × Nat)} (S : CallFix p m c cc nL s args Ts own) (hM : vx_Met l y ws rm Pc Qc XC mc ms free) (cw : vx_CVW R s args own C index y bytes maxL ret hh ws rm mc ms n) (hp : PreV s H C b Pc As)
    (hg : g.method = m) (hn : As.length = n) (hsize : g.locals.size = nL) (hstack : g.stack = As.reverse ++ .ref b :: rest) (hW : 2 * g.monitorRoom + (rest.map fun v => v.category).sum ≤ 8) (hdg : decode cc g.pc = .ok (.invokevirtual index, 3)) (hf : cells + mc ≤ R.cells ∧ slots + ms ≤ R.slots) :
    vx_Run p l e R s m args below meth c H locs cells slots mc ms g rest (Qc (Value.ref b :: As).toArray) XC free := by
  obtain ⟨⟨hrc, hrs, hfr, hlo, hws, hcw⟩, hcode, hini, hy, hlen, hl, hin, hse⟩ := cw
  have hK : vx_Back l R p e below s args y 3 8 (PreOf R mc ms Pc) (PostOf Qc mc ms free) (vx_Post XC mc ms free) := vx_backW (hh := hh) (bytes := bytes) (maxL := maxL) (ret := ret) hM hp.1 hrc hrs hfr hlo hws hcw (fun a' U hW => word_at hW (Or.inl (by first | rfl | simp [Cond.onTables, Cond.keeps, Cond.steady])) hini)
  obtain ⟨hx, hb, hml, ho, -⟩ := S
  obtain ⟨-, ⟨cellB, hcB, hoB, hclB⟩, hPc⟩ := hp
  intro T hT X
  rcases vx_callVX X hx (C := C) (hh := hh) (bytes := bytes) (maxL := maxL) (ret := ret) ho hl hin hse hcode hy hK (by rw [hT]; exact hcB) hoB hclB hg (hsize.trans hml.symm) (argsL := As) (rest := rest) (fun sig h => hn.trans (hlen sig h)) hstack hW (by rw [hb]; exact hdg)
    (fun vm₁ hW₁ => ⟨hf.1, hf.2, hPc (T.setVm vm₁) hT hW₁⟩) with ⟨v, vm₁, ⟨U', l2, c2, s2⟩, hW₁, X', ⟨g', mk, t, L, e1, e2, hq, h1, hL, h2, h3⟩, st⟩ | ⟨q, vm₁, ⟨U', l2, c2, s2⟩, hW₁, X', ⟨g', mk, t, L, E, ce, e1, e2, hq, hce, hcv, hcl, h1, hL, h2, h3⟩, st⟩
  · dsimp only [Pt.U, Pt.locs, Pt.cells, Pt.slots] at X' e1 e2 h1 h2 h3 st
    subst h1; subst h2; subst h3
    exact Or.inl ⟨v, (T.setVm vm₁).calling g' mk (Value.ref b :: As).toArray, t, U', L, hT, X', hL, e1, e2, hq, st⟩
  · dsimp only [Pt.U, Pt.locs, Pt.cells, Pt.slots] at X' e1 e2 h1 h2 h3 st hcl
    subst h1; subst h2; subst h3
    exact Or.inr ⟨q, (T.setVm vm₁).calling g' mk (Value.ref b :: As).toArray, t, U', L, E, ce, hT, X', hL, e1, e2, hq, hce, hcv, vx_cls hW₁ hcl, st⟩
theorem vx_runSX {hh : List (Nat × Nat × Nat × Nat)} (S : CallFix p m c cc nL s args Ts own) (hM : vx_Met l y ws rm Pc Qc XC mc ms free) (cw : vx_CSW R s args own index y bytes maxL ret hh ws rm mc ms n) (hp : PreS s H Pc As)
    (hg : g.method = m) (hn : As.length = n) (hsize : g.locals.size = nL) (hstack : g.stack = As.reverse ++ rest) (hW : 2 * g.monitorRoom + (rest.map fun v => v.category).sum ≤ 8) (hdg : decode cc g.pc = .ok (.invokestatic index, 3)) (hf : cells + mc ≤ R.cells ∧ slots + ms ≤ R.slots) :
    vx_Run p l e R s m args below meth c H locs cells slots mc ms g rest (Qc As.toArray) XC free := by
  obtain ⟨⟨hrc, hrs, hfr, hlo, hws, hcw⟩, hcode, hini, hy, hlen, hl, hstt⟩ := cw
  have hK : vx_Back l R p e below s args y 3 8 (PreOf R mc ms Pc) (PostOf Qc mc ms free) (vx_Post XC mc ms free) := vx_backW (hh := hh) (bytes := bytes) (maxL := maxL) (ret := ret) hM hp.1 hrc hrs hfr hlo hws hcw (fun a' U hW => word_at hW (Or.inl (by first | rfl | simp [Cond.onTables, Cond.keeps, Cond.steady])) hini)
  obtain ⟨hx, hb, hml, ho, -⟩ := S
  intro T hT X
  rcases vx_callSX X hx (hh := hh) (bytes := bytes) (maxL := maxL) (ret := ret) ho hl hstt hini hcode hy hK hg (hsize.trans hml.symm) (argsL := As) (rest := rest) (fun sig h => hn.trans (hlen sig h)) hstack hW (by rw [hb]; exact hdg)
    (fun vm₁ hW₁ => ⟨hf.1, hf.2, hp.2 (T.setVm vm₁) hT hW₁⟩) with ⟨v, vm₁, ⟨U', l2, c2, s2⟩, hW₁, X', ⟨g', mk, t, L, e1, e2, hq, h1, hL, h2, h3⟩, st⟩ | ⟨q, vm₁, ⟨U', l2, c2, s2⟩, hW₁, X', ⟨g', mk, t, L, E, ce, e1, e2, hq, hce, hcv, hcl, h1, hL, h2, h3⟩, st⟩
  · dsimp only [Pt.U, Pt.locs, Pt.cells, Pt.slots] at X' e1 e2 h1 h2 h3 st
    subst h1; subst h2; subst h3
    exact Or.inl ⟨v, (T.setVm vm₁).calling g' mk As.toArray, t, U', L, hT, X', hL, e1, e2, hq, st⟩
  · dsimp only [Pt.U, Pt.locs, Pt.cells, Pt.slots] at X' e1 e2 h1 h2 h3 st hcl
    subst h1; subst h2; subst h3
    exact Or.inr ⟨q, (T.setVm vm₁).calling g' mk As.toArray, t, U', L, E, ce, hT, X', hL, e1, e2, hq, hce, hcv, vx_cls hW₁ hcl, st⟩
end
end VXH
theorem vx_ofWH {l : Launch} {y : MethodName} {ws ws' : List Cond} {rm : Room} {Pc : Array Value → State → Prop} {Qc : Array Value → State → Outcome → State → Prop} {XC : String → State → State → Prop} {mc ms : Nat} {free : Addr → Prop} {cc : ByteArray} {maxL : Nat} {ret : Option FieldType} {hh : List (Nat × Nat × Nat × Nat)}
    (hy : plainName y.cls = true) (hw : ws = Cond.codeWith y cc maxL ret hh :: ws')
    (body : ∀ p e s m args below meth c s₁, BodyLoose p l y (headSpec ws rm) cc maxL ret e s m args below meth c s₁ → c.maxLocals = maxL → Pc args s →
      W p l e (headSpec ws rm).room s m args below meth c s.heap [] 0 0 (vx_MQ below Qc XC args s mc ms free) (entryFrame m args maxL)) : vx_Met l y ws rm Pc Qc XC mc ms free := by
  refine MetFree.of_bodyS (code := cc) (maxLocals := maxL) (ret := ret) hy ?_ ?_
  · intro args s m h hn
    obtain ⟨m9, meth, c, hn9, h1, h2, h3, h4, -, h5, h6, -⟩ := Cond.codeWith_spec (atoms_spec (ws := ws) h _ (by rw [hw]; exact List.mem_cons_self))
    cases hn.symm.trans hn9
    exact ⟨meth, c, h1, h2, h3, h4, h5, h6⟩
  · intro p e s m args below meth c s₁ B hml hP _
    have hh0 : s₁.heap = s.heap := by rw [B.state]; rfl
    obtain ⟨t, a1, o, b1, b2, b3⟩ := body p e s m args below meth c s₁ B hml hP s₁ hh0 (Stand.of_body B)
    exact ⟨t, o, a1, b1, b2, b3⟩
/-! ===== END ===== -/
end
section
def RX0 : String := "Resetline$Calendar"
def TX0 : u_T := fun k => match k with
  | 0 => ("Resetline$Calendar", "firstTown", "LResetline$Diary;", true)
  | _ => ("Resetline$Calendar", "secondTown", "LResetline$Diary;", true)
def tyX0 : Nat → FieldType := fun k => match k with
  | 0 => .object "Resetline$Diary"
  | _ => .object "Resetline$Diary"
abbrev wsX00 : List Cond := u_ws RX0 TX0 2
theorem nmX0 : ∀ a, a < 2 → ∀ b, b < 2 → a ≠ b → (TX0 a).2.1 ≠ (TX0 b).2.1 := by decide +kernel
theorem tyX0_ok : ∀ k, k < 2 → parseFieldDescriptor (TX0 k).2.2.1 = some (tyX0 k) := by decide +kernel
abbrev cX0_init : ByteArray := prog_2_method_1_code
def yX0_init : MethodName := ⟨RX0, "<init>", "()V"⟩
abbrev cX0_holidaysOf : ByteArray := prog_2_method_2_code
def yX0_holidaysOf : MethodName := ⟨RX0, "holidaysOf", "(I)LResetline$Diary;"⟩
abbrev cX0_opensOn : ByteArray := prog_2_method_3_code
def yX0_opensOn : MethodName := ⟨RX0, "opensOn", "(I)Z"⟩
abbrev cX0_rolledDayOf : ByteArray := prog_2_method_4_code
def yX0_rolledDayOf : MethodName := ⟨RX0, "rolledDayOf", "(I)I"⟩
def RX1 : String := "Resetline$Diary"
def TX1 : u_T := fun k => match k with
  | _ => ("Resetline$Diary", "entries", "Ljava/util/ArrayList;", true)
def tyX1 : Nat → FieldType := fun k => match k with
  | _ => .object "java/util/ArrayList"
abbrev wsX10 : List Cond := u_ws RX1 TX1 1
theorem nmX1 : ∀ a, a < 1 → ∀ b, b < 1 → a ≠ b → (TX1 a).2.1 ≠ (TX1 b).2.1 := by decide +kernel
theorem tyX1_ok : ∀ k, k < 1 → parseFieldDescriptor (TX1 k).2.2.1 = some (tyX1 k) := by decide +kernel
abbrev cX1_init : ByteArray := prog_3_method_1_code
def yX1_init : MethodName := ⟨RX1, "<init>", "()V"⟩
abbrev cX1_count : ByteArray := prog_3_method_2_code
def yX1_count : MethodName := ⟨RX1, "count", "()I"⟩
abbrev cX1_has : ByteArray := prog_3_method_3_code
def yX1_has : MethodName := ⟨RX1, "has", "(I)Z"⟩
abbrev cX1_add : ByteArray := prog_3_method_4_code
def yX1_add : MethodName := ⟨RX1, "add", "(II)V"⟩
abbrev cX1_put : ByteArray := prog_3_method_5_code
def yX1_put : MethodName := ⟨RX1, "put", "(II)V"⟩
abbrev cX1_latestValue : ByteArray := prog_3_method_6_code
def yX1_latestValue : MethodName := ⟨RX1, "latestValue", "(II)I"⟩
abbrev cX1_sumUntil : ByteArray := prog_3_method_7_code
def yX1_sumUntil : MethodName := ⟨RX1, "sumUntil", "(I)I"⟩
abbrev cX1_entryOf : ByteArray := prog_3_method_8_code
def yX1_entryOf : MethodName := ⟨RX1, "entryOf", "(I)LResetline$Entry;"⟩
def RX2 : String := "Resetline$Entry"
def TX2 : u_T := fun k => match k with
  | 0 => ("Resetline$Entry", "day", "I", true)
  | _ => ("Resetline$Entry", "value", "I", false)
def tyX2 : Nat → FieldType := fun k => match k with
  | 0 => .int
  | _ => .int
abbrev wsX20 : List Cond := u_ws RX2 TX2 2
theorem nmX2 : ∀ a, a < 2 → ∀ b, b < 2 → a ≠ b → (TX2 a).2.1 ≠ (TX2 b).2.1 := by decide +kernel
theorem tyX2_ok : ∀ k, k < 2 → parseFieldDescriptor (TX2 k).2.2.1 = some (tyX2 k) := by decide +kernel
abbrev cX2_init : ByteArray := prog_4_method_1_code
def yX2_init : MethodName := ⟨RX2, "<init>", "(II)V"⟩
def RX3 : String := "Resetline$Swap"
def TX3 : u_T := fun k => match k with
  | 0 => ("Resetline$Swap", "party", "I", true)
  | 1 => ("Resetline$Swap", "lots", "I", true)
  | 2 => ("Resetline$Swap", "paysFixed", "Z", true)
  | 3 => ("Resetline$Swap", "fixed", "I", true)
  | 4 => ("Resetline$Swap", "first", "I", true)
  | 5 => ("Resetline$Swap", "length", "I", true)
  | 6 => ("Resetline$Swap", "periods", "I", true)
  | 7 => ("Resetline$Swap", "spread", "I", false)
  | 8 => ("Resetline$Swap", "dayCount", "I", false)
  | 9 => ("Resetline$Swap", "compounding", "I", false)
  | 10 => ("Resetline$Swap", "breaks", "LResetline$Diary;", true)
  | 11 => ("Resetline$Swap", "handovers", "LResetline$Diary;", true)
  | _ => ("Resetline$Swap", "bounds", "[I", true)
def tyX3 : Nat → FieldType := fun k => match k with
  | 0 => .int
  | 1 => .int
  | 2 => .boolean
  | 3 => .int
  | 4 => .int
  | 5 => .int
  | 6 => .int
  | 7 => .int
  | 8 => .int
  | 9 => .int
  | 10 => .object "Resetline$Diary"
  | 11 => .object "Resetline$Diary"
  | _ => .array .int
abbrev wsX30 : List Cond := u_ws RX3 TX3 13
theorem nmX3 : ∀ a, a < 13 → ∀ b, b < 13 → a ≠ b → (TX3 a).2.1 ≠ (TX3 b).2.1 := by decide +kernel
theorem tyX3_ok : ∀ k, k < 13 → parseFieldDescriptor (TX3 k).2.2.1 = some (tyX3 k) := by decide +kernel
abbrev cX3_init : ByteArray := prog_5_method_1_code
def yX3_init : MethodName := ⟨RX3, "<init>", "(IIZIIII)V"⟩
abbrev cX3_rollDays : ByteArray := prog_5_method_2_code
def yX3_rollDays : MethodName := ⟨RX3, "rollDays", "(LResetline$Calendar;)V"⟩
abbrev cX3_startOf : ByteArray := prog_5_method_3_code
def yX3_startOf : MethodName := ⟨RX3, "startOf", "(I)I"⟩
abbrev cX3_endOf : ByteArray := prog_5_method_4_code
def yX3_endOf : MethodName := ⟨RX3, "endOf", "(I)I"⟩
abbrev cX3_lotsOf : ByteArray := prog_5_method_5_code
def yX3_lotsOf : MethodName := ⟨RX3, "lotsOf", "(I)I"⟩
abbrev cX3_restOfLots : ByteArray := prog_5_method_6_code
def yX3_restOfLots : MethodName := ⟨RX3, "restOfLots", "()I"⟩
abbrev cX3_holderOn : ByteArray := prog_5_method_7_code
def yX3_holderOn : MethodName := ⟨RX3, "holderOn", "(I)I"⟩
abbrev cX3_floatingOf : ByteArray := prog_5_method_8_code
def yX3_floatingOf : MethodName := ⟨RX3, "floatingOf", "(ILResetline$Diary;)J"⟩
abbrev cX3_flowOf : ByteArray := prog_5_method_9_code
def yX3_flowOf : MethodName := ⟨RX3, "flowOf", "(ILResetline$Diary;)J"⟩
abbrev cX3_cashOf : ByteArray := prog_5_method_10_code
def yX3_cashOf : MethodName := ⟨RX3, "cashOf", "(IIILResetline$Diary;)J"⟩
abbrev cX3_nextPayDay : ByteArray := prog_5_method_11_code
def yX3_nextPayDay : MethodName := ⟨RX3, "nextPayDay", "(II)I"⟩
abbrev cX3_fits : ByteArray := prog_5_method_12_code
def yX3_fits : MethodName := ⟨RX3, "fits", "(LResetline$Swap;)Z"⟩
abbrev cX3_isOfSamePartyFrom : ByteArray := prog_5_method_13_code
def yX3_isOfSamePartyFrom : MethodName := ⟨RX3, "isOfSamePartyFrom", "(ILResetline$Swap;)Z"⟩
abbrev cX3_daysOf : ByteArray := prog_5_method_14_code
def yX3_daysOf : MethodName := ⟨RX3, "daysOf", "(I)J"⟩
abbrev cX3_rateOf : ByteArray := prog_5_method_15_code
def yX3_rateOf : MethodName := ⟨RX3, "rateOf", "(ILResetline$Diary;)J"⟩
def RX4 : String := "Resetline"
def TX4 : u_T := fun k => match k with
  | 0 => ("Resetline", "calendar", "LResetline$Calendar;", true)
  | 1 => ("Resetline", "fixings", "LResetline$Diary;", true)
  | _ => ("Resetline", "book", "Ljava/util/ArrayList;", true)
def tyX4 : Nat → FieldType := fun k => match k with
  | 0 => .object "Resetline$Calendar"
  | 1 => .object "Resetline$Diary"
  | _ => .object "java/util/ArrayList"
abbrev wsX40 : List Cond := u_ws RX4 TX4 3
theorem nmX4 : ∀ a, a < 3 → ∀ b, b < 3 → a ≠ b → (TX4 a).2.1 ≠ (TX4 b).2.1 := by decide +kernel
theorem tyX4_ok : ∀ k, k < 3 → parseFieldDescriptor (TX4 k).2.2.1 = some (tyX4 k) := by decide +kernel
abbrev cX4_init : ByteArray := prog_1_method_1_code
def yX4_init : MethodName := ⟨RX4, "<init>", "()V"⟩
abbrev cX4_holiday : ByteArray := prog_1_method_2_code
def yX4_holiday : MethodName := ⟨RX4, "holiday", "(II)I"⟩
abbrev cX4_isOpen : ByteArray := prog_1_method_3_code
def yX4_isOpen : MethodName := ⟨RX4, "isOpen", "(I)Z"⟩
abbrev cX4_roll : ByteArray := prog_1_method_4_code
def yX4_roll : MethodName := ⟨RX4, "roll", "(I)I"⟩
abbrev cX4_fix : ByteArray := prog_1_method_5_code
def yX4_fix : MethodName := ⟨RX4, "fix", "(II)I"⟩
abbrev cX4_rateFor : ByteArray := prog_1_method_6_code
def yX4_rateFor : MethodName := ⟨RX4, "rateFor", "(I)I"⟩
abbrev cX4_trade : ByteArray := prog_1_method_7_code
def yX4_trade : MethodName := ⟨RX4, "trade", "(IIZIIII)I"⟩
abbrev cX4_setTerms : ByteArray := prog_1_method_8_code
def yX4_setTerms : MethodName := ⟨RX4, "setTerms", "(IIII)V"⟩
abbrev cX4_breakPart : ByteArray := prog_1_method_9_code
def yX4_breakPart : MethodName := ⟨RX4, "breakPart", "(III)I"⟩
abbrev cX4_handOver : ByteArray := prog_1_method_10_code
def yX4_handOver : MethodName := ⟨RX4, "handOver", "(III)I"⟩
abbrev cX4_press : ByteArray := prog_1_method_11_code
def yX4_press : MethodName := ⟨RX4, "press", "(I)I"⟩
abbrev cX4_trades : ByteArray := prog_1_method_12_code
def yX4_trades : MethodName := ⟨RX4, "trades", "()I"⟩
abbrev cX4_start : ByteArray := prog_1_method_13_code
def yX4_start : MethodName := ⟨RX4, "start", "(II)I"⟩
abbrev cX4_end : ByteArray := prog_1_method_14_code
def yX4_end : MethodName := ⟨RX4, "end", "(II)I"⟩
abbrev cX4_lots : ByteArray := prog_1_method_15_code
def yX4_lots : MethodName := ⟨RX4, "lots", "(II)I"⟩
abbrev cX4_floating : ByteArray := prog_1_method_16_code
def yX4_floating : MethodName := ⟨RX4, "floating", "(II)J"⟩
abbrev cX4_flow : ByteArray := prog_1_method_17_code
def yX4_flow : MethodName := ⟨RX4, "flow", "(II)J"⟩
abbrev cX4_partyOn : ByteArray := prog_1_method_18_code
def yX4_partyOn : MethodName := ⟨RX4, "partyOn", "(II)I"⟩
abbrev cX4_cash : ByteArray := prog_1_method_19_code
def yX4_cash : MethodName := ⟨RX4, "cash", "(II)J"⟩
abbrev cX4_cashOfDays : ByteArray := prog_1_method_20_code
def yX4_cashOfDays : MethodName := ⟨RX4, "cashOfDays", "(III)J"⟩
abbrev cX4_cashByTrades : ByteArray := prog_1_method_21_code
def yX4_cashByTrades : MethodName := ⟨RX4, "cashByTrades", "(III)J"⟩
abbrev cX4_nextFlow : ByteArray := prog_1_method_22_code
def yX4_nextFlow : MethodName := ⟨RX4, "nextFlow", "(II)I"⟩
abbrev cX4_checkRange : ByteArray := prog_1_method_23_code
def yX4_checkRange : MethodName := ⟨RX4, "checkRange", "(III)V"⟩
abbrev cX4_checkSpan : ByteArray := prog_1_method_24_code
def yX4_checkSpan : MethodName := ⟨RX4, "checkSpan", "(II)V"⟩
abbrev cX4_checkParty : ByteArray := prog_1_method_25_code
def yX4_checkParty : MethodName := ⟨RX4, "checkParty", "(I)V"⟩
abbrev cX4_swapAt : ByteArray := prog_1_method_26_code
def yX4_swapAt : MethodName := ⟨RX4, "swapAt", "(I)LResetline$Swap;"⟩
abbrev cX4_swapWithPeriod : ByteArray := prog_1_method_27_code
def yX4_swapWithPeriod : MethodName := ⟨RX4, "swapWithPeriod", "(II)LResetline$Swap;"⟩
abbrev cX4_rollAllTrades : ByteArray := prog_1_method_28_code
def yX4_rollAllTrades : MethodName := ⟨RX4, "rollAllTrades", "()V"⟩
abbrev cX4_cashOnDay : ByteArray := prog_1_method_29_code
def yX4_cashOnDay : MethodName := ⟨RX4, "cashOnDay", "(II)J"⟩
abbrev cX4_pressPair : ByteArray := prog_1_method_30_code
def yX4_pressPair : MethodName := ⟨RX4, "pressPair", "(LResetline$Swap;LResetline$Swap;I)I"⟩
def RX5 : String := "ResetlineModel"
def TX5 : u_T := fun k => match k with
  | 0 => ("ResetlineModel", "thrown", "I", false)
  | 1 => ("ResetlineModel", "isHoliday", "[Z", true)
  | 2 => ("ResetlineModel", "holidays", "[I", true)
  | 3 => ("ResetlineModel", "isFixed", "[Z", true)
  | 4 => ("ResetlineModel", "rates", "[I", true)
  | 5 => ("ResetlineModel", "fixings", "I", false)
  | 6 => ("ResetlineModel", "tradeMany", "I", false)
  | 7 => ("ResetlineModel", "parties", "[I", true)
  | 8 => ("ResetlineModel", "sizes", "[I", true)
  | 9 => ("ResetlineModel", "pays", "[Z", true)
  | 10 => ("ResetlineModel", "fixed", "[I", true)
  | 11 => ("ResetlineModel", "firsts", "[I", true)
  | 12 => ("ResetlineModel", "lengths", "[I", true)
  | 13 => ("ResetlineModel", "periods", "[I", true)
  | 14 => ("ResetlineModel", "spreads", "[I", true)
  | 15 => ("ResetlineModel", "dayCounts", "[I", true)
  | 16 => ("ResetlineModel", "ways", "[I", true)
  | 17 => ("ResetlineModel", "breakMany", "I", false)
  | 18 => ("ResetlineModel", "breakTrades", "[I", true)
  | 19 => ("ResetlineModel", "breakDays", "[I", true)
  | 20 => ("ResetlineModel", "breakLots", "[I", true)
  | 21 => ("ResetlineModel", "handMany", "[I", true)
  | 22 => ("ResetlineModel", "handDays", "[I", true)
  | _ => ("ResetlineModel", "hands", "[I", true)
def tyX5 : Nat → FieldType := fun k => match k with
  | 0 => .int
  | 1 => .array .boolean
  | 2 => .array .int
  | 3 => .array .boolean
  | 4 => .array .int
  | 5 => .int
  | 6 => .int
  | 7 => .array .int
  | 8 => .array .int
  | 9 => .array .boolean
  | 10 => .array .int
  | 11 => .array .int
  | 12 => .array .int
  | 13 => .array .int
  | 14 => .array .int
  | 15 => .array .int
  | 16 => .array .int
  | 17 => .int
  | 18 => .array .int
  | 19 => .array .int
  | 20 => .array .int
  | 21 => .array .int
  | 22 => .array .int
  | _ => .array .int
abbrev wsX50 : List Cond := u_ws RX5 TX5 24
theorem nmX5 : ∀ a, a < 24 → ∀ b, b < 24 → a ≠ b → (TX5 a).2.1 ≠ (TX5 b).2.1 := by decide +kernel
theorem tyX5_ok : ∀ k, k < 24 → parseFieldDescriptor (TX5 k).2.2.1 = some (tyX5 k) := by decide +kernel
abbrev cX5_init : ByteArray := prog_7_method_1_code
def yX5_init : MethodName := ⟨RX5, "<init>", "()V"⟩
abbrev cX5_thrown : ByteArray := prog_7_method_2_code
def yX5_thrown : MethodName := ⟨RX5, "thrown", "()I"⟩
abbrev cX5_fails : ByteArray := prog_7_method_3_code
def yX5_fails : MethodName := ⟨RX5, "fails", "(I)I"⟩
abbrev cX5_in : ByteArray := prog_7_method_4_code
def yX5_in : MethodName := ⟨RX5, "in", "(III)Z"⟩
abbrev cX5_isDay : ByteArray := prog_7_method_5_code
def yX5_isDay : MethodName := ⟨RX5, "isDay", "(I)Z"⟩
abbrev cX5_isParty : ByteArray := prog_7_method_6_code
def yX5_isParty : MethodName := ⟨RX5, "isParty", "(I)Z"⟩
abbrev cX5_isTrade : ByteArray := prog_7_method_7_code
def yX5_isTrade : MethodName := ⟨RX5, "isTrade", "(I)Z"⟩
abbrev cX5_isPeriod : ByteArray := prog_7_method_8_code
def yX5_isPeriod : MethodName := ⟨RX5, "isPeriod", "(II)Z"⟩
abbrev cX5_opens : ByteArray := prog_7_method_9_code
def yX5_opens : MethodName := ⟨RX5, "opens", "(I)Z"⟩
abbrev cX5_rolled : ByteArray := prog_7_method_10_code
def yX5_rolled : MethodName := ⟨RX5, "rolled", "(I)I"⟩
abbrev cX5_rate : ByteArray := prog_7_method_11_code
def yX5_rate : MethodName := ⟨RX5, "rate", "(I)I"⟩
abbrev cX5_holiday : ByteArray := prog_7_method_12_code
def yX5_holiday : MethodName := ⟨RX5, "holiday", "(II)I"⟩
abbrev cX5_isOpen : ByteArray := prog_7_method_13_code
def yX5_isOpen : MethodName := ⟨RX5, "isOpen", "(I)Z"⟩
abbrev cX5_roll : ByteArray := prog_7_method_14_code
def yX5_roll : MethodName := ⟨RX5, "roll", "(I)I"⟩
abbrev cX5_fix : ByteArray := prog_7_method_15_code
def yX5_fix : MethodName := ⟨RX5, "fix", "(II)I"⟩
abbrev cX5_rateFor : ByteArray := prog_7_method_16_code
def yX5_rateFor : MethodName := ⟨RX5, "rateFor", "(I)I"⟩
abbrev cX5_trade : ByteArray := prog_7_method_17_code
def yX5_trade : MethodName := ⟨RX5, "trade", "(IIZIIII)I"⟩
abbrev cX5_broken : ByteArray := prog_7_method_18_code
def yX5_broken : MethodName := ⟨RX5, "broken", "(II)I"⟩
abbrev cX5_rest : ByteArray := prog_7_method_19_code
def yX5_rest : MethodName := ⟨RX5, "rest", "(I)I"⟩
abbrev cX5_countBreaks : ByteArray := prog_7_method_20_code
def yX5_countBreaks : MethodName := ⟨RX5, "countBreaks", "(I)I"⟩
abbrev cX5_setTerms : ByteArray := prog_7_method_21_code
def yX5_setTerms : MethodName := ⟨RX5, "setTerms", "(IIII)V"⟩
abbrev cX5_breaks : ByteArray := prog_7_method_22_code
def yX5_breaks : MethodName := ⟨RX5, "breaks", "(III)V"⟩
abbrev cX5_breakPart : ByteArray := prog_7_method_23_code
def yX5_breakPart : MethodName := ⟨RX5, "breakPart", "(III)I"⟩
abbrev cX5_party : ByteArray := prog_7_method_24_code
def yX5_party : MethodName := ⟨RX5, "party", "(II)I"⟩
abbrev cX5_handOver : ByteArray := prog_7_method_25_code
def yX5_handOver : MethodName := ⟨RX5, "handOver", "(III)I"⟩
abbrev cX5_areLike : ByteArray := prog_7_method_26_code
def yX5_areLike : MethodName := ⟨RX5, "areLike", "(II)Z"⟩
abbrev cX5_haveOneParty : ByteArray := prog_7_method_27_code
def yX5_haveOneParty : MethodName := ⟨RX5, "haveOneParty", "(III)Z"⟩
abbrev cX5_press : ByteArray := prog_7_method_28_code
def yX5_press : MethodName := ⟨RX5, "press", "(I)I"⟩
abbrev cX5_trades : ByteArray := prog_7_method_29_code
def yX5_trades : MethodName := ⟨RX5, "trades", "()I"⟩
abbrev cX5_begins : ByteArray := prog_7_method_30_code
def yX5_begins : MethodName := ⟨RX5, "begins", "(II)I"⟩
abbrev cX5_days : ByteArray := prog_7_method_31_code
def yX5_days : MethodName := ⟨RX5, "days", "(II)I"⟩
abbrev cX5_lotsOf : ByteArray := prog_7_method_32_code
def yX5_lotsOf : MethodName := ⟨RX5, "lotsOf", "(II)I"⟩
abbrev cX5_floor : ByteArray := prog_7_method_33_code
def yX5_floor : MethodName := ⟨RX5, "floor", "(JJ)J"⟩
abbrev cX5_floats : ByteArray := prog_7_method_34_code
def yX5_floats : MethodName := ⟨RX5, "floats", "(II)J"⟩
abbrev cX5_flowOf : ByteArray := prog_7_method_35_code
def yX5_flowOf : MethodName := ⟨RX5, "flowOf", "(II)J"⟩
abbrev cX5_start : ByteArray := prog_7_method_36_code
def yX5_start : MethodName := ⟨RX5, "start", "(II)I"⟩
abbrev cX5_end : ByteArray := prog_7_method_37_code
def yX5_end : MethodName := ⟨RX5, "end", "(II)I"⟩
abbrev cX5_lots : ByteArray := prog_7_method_38_code
def yX5_lots : MethodName := ⟨RX5, "lots", "(II)I"⟩
abbrev cX5_floating : ByteArray := prog_7_method_39_code
def yX5_floating : MethodName := ⟨RX5, "floating", "(II)J"⟩
abbrev cX5_flow : ByteArray := prog_7_method_40_code
def yX5_flow : MethodName := ⟨RX5, "flow", "(II)J"⟩
abbrev cX5_partyOn : ByteArray := prog_7_method_41_code
def yX5_partyOn : MethodName := ⟨RX5, "partyOn", "(II)I"⟩
abbrev cX5_sum : ByteArray := prog_7_method_42_code
def yX5_sum : MethodName := ⟨RX5, "sum", "(III)J"⟩
abbrev cX5_cash : ByteArray := prog_7_method_43_code
def yX5_cash : MethodName := ⟨RX5, "cash", "(II)J"⟩
abbrev cX5_barsDays : ByteArray := prog_7_method_44_code
def yX5_barsDays : MethodName := ⟨RX5, "barsDays", "(III)I"⟩
abbrev cX5_cashOfDays : ByteArray := prog_7_method_45_code
def yX5_cashOfDays : MethodName := ⟨RX5, "cashOfDays", "(III)J"⟩
abbrev cX5_cashByTrades : ByteArray := prog_7_method_46_code
def yX5_cashByTrades : MethodName := ⟨RX5, "cashByTrades", "(III)J"⟩
abbrev cX5_nextFlow : ByteArray := prog_7_method_47_code
def yX5_nextFlow : MethodName := ⟨RX5, "nextFlow", "(II)I"⟩
def RJx145de : String := "java/io/Serializable"
def TJx145de : u_T := fun k => match k with
  | _ => ("", "", "", false)
def tyJx145de : Nat → FieldType := fun k => match k with
  | _ => .int
abbrev wsJx145de0 : List Cond := u_ws RJx145de TJx145de 0
theorem nmJx145de : ∀ a, a < 0 → ∀ b, b < 0 → a ≠ b → (TJx145de a).2.1 ≠ (TJx145de b).2.1 := by decide +kernel
theorem tyJx145de_ok : ∀ k, k < 0 → parseFieldDescriptor (TJx145de k).2.2.1 = some (tyJx145de k) := by decide +kernel
def RJx8e188 : String := "java/lang/Cloneable"
def TJx8e188 : u_T := fun k => match k with
  | _ => ("", "", "", false)
def tyJx8e188 : Nat → FieldType := fun k => match k with
  | _ => .int
abbrev wsJx8e1880 : List Cond := u_ws RJx8e188 TJx8e188 0
theorem nmJx8e188 : ∀ a, a < 0 → ∀ b, b < 0 → a ≠ b → (TJx8e188 a).2.1 ≠ (TJx8e188 b).2.1 := by decide +kernel
theorem tyJx8e188_ok : ∀ k, k < 0 → parseFieldDescriptor (TJx8e188 k).2.2.1 = some (tyJx8e188 k) := by decide +kernel
def RJxab1ab : String := "java/lang/Iterable"
def TJxab1ab : u_T := fun k => match k with
  | _ => ("", "", "", false)
def tyJxab1ab : Nat → FieldType := fun k => match k with
  | _ => .int
abbrev wsJxab1ab0 : List Cond := u_ws RJxab1ab TJxab1ab 0
theorem nmJxab1ab : ∀ a, a < 0 → ∀ b, b < 0 → a ≠ b → (TJxab1ab a).2.1 ≠ (TJxab1ab b).2.1 := by decide +kernel
theorem tyJxab1ab_ok : ∀ k, k < 0 → parseFieldDescriptor (TJxab1ab k).2.2.1 = some (tyJxab1ab k) := by decide +kernel
def RJ9 : String := "java/lang/Math"
def TJ9 : u_T := fun k => match k with
  | _ => ("", "", "", false)
def tyJ9 : Nat → FieldType := fun k => match k with
  | _ => .int
abbrev wsJ90 : List Cond := u_ws RJ9 TJ9 0
theorem nmJ9 : ∀ a, a < 0 → ∀ b, b < 0 → a ≠ b → (TJ9 a).2.1 ≠ (TJ9 b).2.1 := by decide +kernel
theorem tyJ9_ok : ∀ k, k < 0 → parseFieldDescriptor (TJ9 k).2.2.1 = some (tyJ9 k) := by decide +kernel
abbrev cJ9_floorDiv_f86c9 : ByteArray := prog_15_method_49_code
def yJ9_floorDiv_f86c9 : MethodName := ⟨RJ9, "floorDiv", "(JJ)J"⟩
abbrev cJ9_floorMod_7cf53 : ByteArray := prog_15_method_50_code
def yJ9_floorMod_7cf53 : MethodName := ⟨RJ9, "floorMod", "(II)I"⟩
abbrev cJ9_max_7cf53 : ByteArray := prog_15_method_65_code
def yJ9_max_7cf53 : MethodName := ⟨RJ9, "max", "(II)I"⟩
abbrev cJ9_min_7cf53 : ByteArray := prog_15_method_69_code
def yJ9_min_7cf53 : MethodName := ⟨RJ9, "min", "(II)I"⟩
def RJ0 : String := "java/lang/String"
def TJ0 : u_T := fun k => match k with
  | _ => ("", "", "", false)
def tyJ0 : Nat → FieldType := fun k => match k with
  | _ => .int
abbrev wsJ00 : List Cond := u_ws RJ0 TJ0 0
theorem nmJ0 : ∀ a, a < 0 → ∀ b, b < 0 → a ≠ b → (TJ0 a).2.1 ≠ (TJ0 b).2.1 := by decide +kernel
theorem tyJ0_ok : ∀ k, k < 0 → parseFieldDescriptor (TJ0 k).2.2.1 = some (tyJ0 k) := by decide +kernel
def RJ10 : String := "java/lang/System"
def TJ10 : u_T := fun k => match k with
  | _ => ("", "", "", false)
def tyJ10 : Nat → FieldType := fun k => match k with
  | _ => .int
abbrev wsJ100 : List Cond := u_ws RJ10 TJ10 0
theorem nmJ10 : ∀ a, a < 0 → ∀ b, b < 0 → a ≠ b → (TJ10 a).2.1 ≠ (TJ10 b).2.1 := by decide +kernel
theorem tyJ10_ok : ∀ k, k < 0 → parseFieldDescriptor (TJ10 k).2.2.1 = some (tyJ10 k) := by decide +kernel
def RJxa1e45 : String := "java/util/AbstractCollection"
def TJxa1e45 : u_T := fun k => match k with
  | _ => ("", "", "", false)
def tyJxa1e45 : Nat → FieldType := fun k => match k with
  | _ => .int
abbrev wsJxa1e450 : List Cond := u_ws RJxa1e45 TJxa1e45 0
theorem nmJxa1e45 : ∀ a, a < 0 → ∀ b, b < 0 → a ≠ b → (TJxa1e45 a).2.1 ≠ (TJxa1e45 b).2.1 := by decide +kernel
theorem tyJxa1e45_ok : ∀ k, k < 0 → parseFieldDescriptor (TJxa1e45 k).2.2.1 = some (tyJxa1e45 k) := by decide +kernel
abbrev cJxa1e45_init_da8c8 : ByteArray := prog_20_method_1_code
def yJxa1e45_init_da8c8 : MethodName := ⟨RJxa1e45, "<init>", "()V"⟩
def RJxc12de : String := "java/util/AbstractList"
def TJxc12de : u_T := fun k => match k with
  | _ => ("", "", "", false)
def tyJxc12de : Nat → FieldType := fun k => match k with
  | _ => .int
abbrev wsJxc12de0 : List Cond := u_ws RJxc12de TJxc12de 0
theorem nmJxc12de : ∀ a, a < 0 → ∀ b, b < 0 → a ≠ b → (TJxc12de a).2.1 ≠ (TJxc12de b).2.1 := by decide +kernel
theorem tyJxc12de_ok : ∀ k, k < 0 → parseFieldDescriptor (TJxc12de k).2.2.1 = some (tyJxc12de k) := by decide +kernel
abbrev cJxc12de_init_da8c8 : ByteArray := prog_21_method_1_code
def yJxc12de_init_da8c8 : MethodName := ⟨RJxc12de, "<init>", "()V"⟩
def RJx4a65c : String := "java/util/ArrayList"
def TJx4a65c : u_T := fun k => match k with
  | 0 => ("java/util/AbstractList", "modCount", "I", false)
  | 1 => ("java/util/ArrayList", "elementData", "[Ljava/lang/Object;", false)
  | _ => ("java/util/ArrayList", "size", "I", false)
def tyJx4a65c : Nat → FieldType := fun k => match k with
  | 0 => .int
  | 1 => .array (.object "java/lang/Object")
  | _ => .int
abbrev wsJx4a65c0 : List Cond := u_ws RJx4a65c TJx4a65c 3
theorem nmJx4a65c : ∀ a, a < 3 → ∀ b, b < 3 → a ≠ b → (TJx4a65c a).2.1 ≠ (TJx4a65c b).2.1 := by decide +kernel
theorem tyJx4a65c_ok : ∀ k, k < 3 → parseFieldDescriptor (TJx4a65c k).2.2.1 = some (tyJx4a65c k) := by decide +kernel
abbrev cJx4a65c_init_da8c8 : ByteArray := prog_22_method_2_code
def yJx4a65c_init_da8c8 : MethodName := ⟨RJx4a65c, "<init>", "()V"⟩
abbrev cJx4a65c_grow_92f84 : ByteArray := prog_22_method_6_code
def yJx4a65c_grow_92f84 : MethodName := ⟨RJx4a65c, "grow", "(I)[Ljava/lang/Object;"⟩
abbrev cJx4a65c_grow_d5877 : ByteArray := prog_22_method_7_code
def yJx4a65c_grow_d5877 : MethodName := ⟨RJx4a65c, "grow", "()[Ljava/lang/Object;"⟩
abbrev cJx4a65c_size_8abf5 : ByteArray := prog_22_method_8_code
def yJx4a65c_size_8abf5 : MethodName := ⟨RJx4a65c, "size", "()I"⟩
abbrev cJx4a65c_elementData_915e3 : ByteArray := prog_22_method_18_code
def yJx4a65c_elementData_915e3 : MethodName := ⟨RJx4a65c, "elementData", "(I)Ljava/lang/Object;"⟩
abbrev cJx4a65c_get_915e3 : ByteArray := prog_22_method_20_code
def yJx4a65c_get_915e3 : MethodName := ⟨RJx4a65c, "get", "(I)Ljava/lang/Object;"⟩
abbrev cJx4a65c_add_72be8 : ByteArray := prog_22_method_24_code
def yJx4a65c_add_72be8 : MethodName := ⟨RJx4a65c, "add", "(Ljava/lang/Object;[Ljava/lang/Object;I)V"⟩
abbrev cJx4a65c_add_9ea2d : ByteArray := prog_22_method_25_code
def yJx4a65c_add_9ea2d : MethodName := ⟨RJx4a65c, "add", "(Ljava/lang/Object;)Z"⟩
def RJ7 : String := "java/util/Arrays"
def TJ7 : u_T := fun k => match k with
  | _ => ("", "", "", false)
def tyJ7 : Nat → FieldType := fun k => match k with
  | _ => .int
abbrev wsJ70 : List Cond := u_ws RJ7 TJ7 0
theorem nmJ7 : ∀ a, a < 0 → ∀ b, b < 0 → a ≠ b → (TJ7 a).2.1 ≠ (TJ7 b).2.1 := by decide +kernel
theorem tyJ7_ok : ∀ k, k < 0 → parseFieldDescriptor (TJ7 k).2.2.1 = some (tyJ7 k) := by decide +kernel
abbrev cJ7_copyOf_1904c : ByteArray := prog_23_method_119_code
def yJ7_copyOf_1904c : MethodName := ⟨RJ7, "copyOf", "([Ljava/lang/Object;I)[Ljava/lang/Object;"⟩
abbrev cJ7_copyOf_6403c : ByteArray := prog_23_method_120_code
def yJ7_copyOf_6403c : MethodName := ⟨RJ7, "copyOf", "([Ljava/lang/Object;ILjava/lang/Class;)[Ljava/lang/Object;"⟩
def RJx5ef63 : String := "java/util/Collection"
def TJx5ef63 : u_T := fun k => match k with
  | _ => ("", "", "", false)
def tyJx5ef63 : Nat → FieldType := fun k => match k with
  | _ => .int
abbrev wsJx5ef630 : List Cond := u_ws RJx5ef63 TJx5ef63 0
theorem nmJx5ef63 : ∀ a, a < 0 → ∀ b, b < 0 → a ≠ b → (TJx5ef63 a).2.1 ≠ (TJx5ef63 b).2.1 := by decide +kernel
theorem tyJx5ef63_ok : ∀ k, k < 0 → parseFieldDescriptor (TJx5ef63 k).2.2.1 = some (tyJx5ef63 k) := by decide +kernel
def RJxbd725 : String := "java/util/List"
def TJxbd725 : u_T := fun k => match k with
  | _ => ("", "", "", false)
def tyJxbd725 : Nat → FieldType := fun k => match k with
  | _ => .int
abbrev wsJxbd7250 : List Cond := u_ws RJxbd725 TJxbd725 0
theorem nmJxbd725 : ∀ a, a < 0 → ∀ b, b < 0 → a ≠ b → (TJxbd725 a).2.1 ≠ (TJxbd725 b).2.1 := by decide +kernel
theorem tyJxbd725_ok : ∀ k, k < 0 → parseFieldDescriptor (TJxbd725 k).2.2.1 = some (tyJxbd725 k) := by decide +kernel
def RJ15 : String := "java/util/Objects"
def TJ15 : u_T := fun k => match k with
  | _ => ("", "", "", false)
def tyJ15 : Nat → FieldType := fun k => match k with
  | _ => .int
abbrev wsJ150 : List Cond := u_ws RJ15 TJ15 0
theorem nmJ15 : ∀ a, a < 0 → ∀ b, b < 0 → a ≠ b → (TJ15 a).2.1 ≠ (TJ15 b).2.1 := by decide +kernel
theorem tyJ15_ok : ∀ k, k < 0 → parseFieldDescriptor (TJ15 k).2.2.1 = some (tyJ15 k) := by decide +kernel
abbrev cJ15_checkIndex_7cf53 : ByteArray := prog_26_method_17_code
def yJ15_checkIndex_7cf53 : MethodName := ⟨RJ15, "checkIndex", "(II)I"⟩
def RJxf0a74 : String := "java/util/RandomAccess"
def TJxf0a74 : u_T := fun k => match k with
  | _ => ("", "", "", false)
def tyJxf0a74 : Nat → FieldType := fun k => match k with
  | _ => .int
abbrev wsJxf0a740 : List Cond := u_ws RJxf0a74 TJxf0a74 0
theorem nmJxf0a74 : ∀ a, a < 0 → ∀ b, b < 0 → a ≠ b → (TJxf0a74 a).2.1 ≠ (TJxf0a74 b).2.1 := by decide +kernel
theorem tyJxf0a74_ok : ∀ k, k < 0 → parseFieldDescriptor (TJxf0a74 k).2.2.1 = some (tyJxf0a74 k) := by decide +kernel
def RJxa66e6 : String := "java/util/SequencedCollection"
def TJxa66e6 : u_T := fun k => match k with
  | _ => ("", "", "", false)
def tyJxa66e6 : Nat → FieldType := fun k => match k with
  | _ => .int
abbrev wsJxa66e60 : List Cond := u_ws RJxa66e6 TJxa66e6 0
theorem nmJxa66e6 : ∀ a, a < 0 → ∀ b, b < 0 → a ≠ b → (TJxa66e6 a).2.1 ≠ (TJxa66e6 b).2.1 := by decide +kernel
theorem tyJxa66e6_ok : ∀ k, k < 0 → parseFieldDescriptor (TJxa66e6 k).2.2.1 = some (tyJxa66e6 k) := by decide +kernel
def RJ8 : String := "jdk/internal/util/ArraysSupport"
def TJ8 : u_T := fun k => match k with
  | _ => ("", "", "", false)
def tyJ8 : Nat → FieldType := fun k => match k with
  | _ => .int
abbrev wsJ80 : List Cond := u_ws RJ8 TJ8 0
theorem nmJ8 : ∀ a, a < 0 → ∀ b, b < 0 → a ≠ b → (TJ8 a).2.1 ≠ (TJ8 b).2.1 := by decide +kernel
theorem tyJ8_ok : ∀ k, k < 0 → parseFieldDescriptor (TJ8 k).2.2.1 = some (tyJ8 k) := by decide +kernel
abbrev cJ8_newLength_cabcc : ByteArray := prog_29_method_27_code
def yJ8_newLength_cabcc : MethodName := ⟨RJ8, "newLength", "(III)I"⟩
abbrev cJ8_hugeLength_7cf53 : ByteArray := prog_29_method_28_code
def yJ8_hugeLength_7cf53 : MethodName := ⟨RJ8, "hugeLength", "(II)I"⟩
def RJ3 : String := "jdk/internal/util/Preconditions"
def TJ3 : u_T := fun k => match k with
  | _ => ("", "", "", false)
def tyJ3 : Nat → FieldType := fun k => match k with
  | _ => .int
abbrev wsJ30 : List Cond := u_ws RJ3 TJ3 0
theorem nmJ3 : ∀ a, a < 0 → ∀ b, b < 0 → a ≠ b → (TJ3 a).2.1 ≠ (TJ3 b).2.1 := by decide +kernel
theorem tyJ3_ok : ∀ k, k < 0 → parseFieldDescriptor (TJ3 k).2.2.1 = some (tyJ3 k) := by decide +kernel
abbrev cJ3_checkIndex_8e157 : ByteArray := prog_30_method_11_code
def yJ3_checkIndex_8e157 : MethodName := ⟨RJ3, "checkIndex", "(IILjava/util/function/BiFunction;)I"⟩
def RL : String := "ResetlineLaw"
abbrev cL_holiday : ByteArray := method_3_code
def yL_holiday : MethodName := ⟨RL, "holiday", "(LResetline;II[J)I"⟩
abbrev cL_isOpen : ByteArray := method_4_code
def yL_isOpen : MethodName := ⟨RL, "isOpen", "(LResetline;I[J)I"⟩
abbrev cL_roll : ByteArray := method_5_code
def yL_roll : MethodName := ⟨RL, "roll", "(LResetline;I[J)I"⟩
abbrev cL_fix : ByteArray := method_6_code
def yL_fix : MethodName := ⟨RL, "fix", "(LResetline;II[J)I"⟩
abbrev cL_rateFor : ByteArray := method_7_code
def yL_rateFor : MethodName := ⟨RL, "rateFor", "(LResetline;I[J)I"⟩
abbrev cL_trade : ByteArray := method_8_code
def yL_trade : MethodName := ⟨RL, "trade", "(LResetline;IIZIIII[J)I"⟩
abbrev cL_setTerms : ByteArray := method_9_code
def yL_setTerms : MethodName := ⟨RL, "setTerms", "(LResetline;IIII)I"⟩
abbrev cL_breakPart : ByteArray := method_10_code
def yL_breakPart : MethodName := ⟨RL, "breakPart", "(LResetline;III[J)I"⟩
abbrev cL_handOver : ByteArray := method_11_code
def yL_handOver : MethodName := ⟨RL, "handOver", "(LResetline;III[J)I"⟩
abbrev cL_press : ByteArray := method_12_code
def yL_press : MethodName := ⟨RL, "press", "(LResetline;I[J)I"⟩
abbrev cL_start : ByteArray := method_13_code
def yL_start : MethodName := ⟨RL, "start", "(LResetline;II[J)I"⟩
abbrev cL_end : ByteArray := method_14_code
def yL_end : MethodName := ⟨RL, "end", "(LResetline;II[J)I"⟩
abbrev cL_lots : ByteArray := method_15_code
def yL_lots : MethodName := ⟨RL, "lots", "(LResetline;II[J)I"⟩
abbrev cL_floating : ByteArray := method_16_code
def yL_floating : MethodName := ⟨RL, "floating", "(LResetline;II[J)I"⟩
abbrev cL_flow : ByteArray := method_17_code
def yL_flow : MethodName := ⟨RL, "flow", "(LResetline;II[J)I"⟩
abbrev cL_partyOn : ByteArray := method_18_code
def yL_partyOn : MethodName := ⟨RL, "partyOn", "(LResetline;II[J)I"⟩
abbrev cL_cash : ByteArray := method_19_code
def yL_cash : MethodName := ⟨RL, "cash", "(LResetline;II[J)I"⟩
abbrev cL_cashOfDays : ByteArray := method_20_code
def yL_cashOfDays : MethodName := ⟨RL, "cashOfDays", "(LResetline;III[J)I"⟩
abbrev cL_cashByTrades : ByteArray := method_21_code
def yL_cashByTrades : MethodName := ⟨RL, "cashByTrades", "(LResetline;III[J)I"⟩
abbrev cL_nextFlow : ByteArray := method_22_code
def yL_nextFlow : MethodName := ⟨RL, "nextFlow", "(LResetline;II[J)I"⟩
abbrev cL_law : ByteArray := code
def yL_law : MethodName := ⟨RL, "law", "([I)Z"⟩
abbrev vwCl : List vw_C := [(RJx4a65c, TJx4a65c, 3), (RX0, TX0, 2), (RX1, TX1, 1), (RX2, TX2, 2), (RX3, TX3, 13), (RX4, TX4, 3), (RX5, TX5, 24)]
end
section
/-- the words that every method has: the good ones of the tables -/
def Tw : List Cond := lw_tbl.filter goodWord
theorem tw_of {w : Cond} (h : w ∈ tables_1) (hg : goodWord w = true) : w ∈ Tw := List.mem_filter.mpr ⟨List.mem_append_right _ h, hg⟩
theorem tw1 {w : Cond} (k : Nat) (h : tables_1_1[k]? = some w) (hg : goodWord w = true) : w ∈ Tw := tw_of (List.mem_append_left _ (List.mem_of_getElem? h)) hg
theorem tw2 {w : Cond} (k : Nat) (h : tables_1_2[k]? = some w) (hg : goodWord w = true) : w ∈ Tw := tw_of (List.mem_append_right _ (List.mem_append_left _ (List.mem_of_getElem? h))) hg
theorem tw3 {w : Cond} (k : Nat) (h : tables_1_3[k]? = some w) (hg : goodWord w = true) : w ∈ Tw := tw_of (List.mem_append_right _ (List.mem_append_right _ (List.mem_append_left _ (List.mem_of_getElem? h)))) hg
theorem tw4 {w : Cond} (k : Nat) (h : tables_1_4[k]? = some w) (hg : goodWord w = true) : w ∈ Tw := tw_of (List.mem_append_right _ (List.mem_append_right _ (List.mem_append_right _ (List.mem_of_getElem? h)))) hg
theorem tw_lw {w : Cond} (h : w ∈ Tw) : w ∈ lw_tbl := (List.mem_filter.mp h).1
theorem tw_good {w : Cond} (h : w ∈ Tw) : goodWord w = true := (List.mem_filter.mp h).2
theorem tw_priv {q : MethodName × Nat} (k : Nat) (h : lw_privs[k]? = some q) (hg : goodWord (Cond.selects q.1.cls q.1 q.1) = true) : Cond.selects q.1.cls q.1 q.1 ∈ Tw := List.mem_filter.mpr ⟨List.mem_append_left _ (List.mem_map.mpr ⟨q, List.mem_of_getElem? h, rfl⟩), hg⟩
theorem qw1_0 : Cond.initialized RL ∈ Tw := tw1 0 rfl rfl
theorem qw1_1 : Cond.initialized RX4 ∈ Tw := tw1 1 rfl rfl
theorem qw1_2 : Cond.initialized RX0 ∈ Tw := tw1 2 rfl rfl
theorem qw1_3 : Cond.initialized RX1 ∈ Tw := tw1 3 rfl rfl
theorem qw1_4 : Cond.initialized RJxa1e45 ∈ Tw := tw1 4 rfl rfl
theorem qw1_5 : Cond.initialized RJxc12de ∈ Tw := tw1 5 rfl rfl
theorem qw1_6 : Cond.initialized RJx4a65c ∈ Tw := tw1 6 rfl rfl
theorem qw1_7 : Cond.initialized RX5 ∈ Tw := tw1 7 rfl rfl
theorem qw1_8 : Cond.initialized "java/lang/Throwable" ∈ Tw := tw1 8 rfl rfl
theorem qw1_9 : Cond.initialized "java/lang/Exception" ∈ Tw := tw1 9 rfl rfl
theorem qw1_10 : Cond.initialized "java/lang/RuntimeException" ∈ Tw := tw1 10 rfl rfl
theorem qw1_11 : Cond.initialized "java/lang/IndexOutOfBoundsException" ∈ Tw := tw1 11 rfl rfl
theorem qw1_12 : Cond.initialized "java/lang/IllegalArgumentException" ∈ Tw := tw1 12 rfl rfl
theorem qw1_13 : Cond.initialized RJ15 ∈ Tw := tw1 13 rfl rfl
theorem qw1_14 : Cond.initialized RJ3 ∈ Tw := tw1 14 rfl rfl
theorem qw1_15 : Cond.initialized "java/lang/IllegalStateException" ∈ Tw := tw1 15 rfl rfl
theorem qw1_16 : Cond.initialized RX2 ∈ Tw := tw1 16 rfl rfl
theorem qw1_17 : Cond.initialized RJ8 ∈ Tw := tw1 17 rfl rfl
theorem qw1_18 : Cond.initialized RJ9 ∈ Tw := tw1 18 rfl rfl
theorem qw1_19 : Cond.initialized RJ7 ∈ Tw := tw1 19 rfl rfl
theorem qw1_20 : Cond.initialized RJ10 ∈ Tw := tw1 20 rfl rfl
theorem qw1_21 : Cond.initialized RX3 ∈ Tw := tw1 21 rfl rfl
theorem qw1_22 : Cond.classLink RL 8 RX4 ∈ Tw := tw1 22 rfl rfl
theorem qw1_23 : Cond.instantiable RX4 3 ∈ Tw := tw1 23 rfl rfl
theorem qw1_24 : Cond.methodLink RL 83 yX4_init ∈ Tw := tw1 24 rfl rfl
theorem qw1_25 : Cond.instanceMethod yX4_init ∈ Tw := tw1 25 rfl rfl
theorem qw1_26 : Cond.code yX4_init cX4_init 1 (none : Option FieldType) ∈ Tw := tw1 26 rfl rfl
theorem qw1_27 : Cond.methodLink RX4 1 ⟨"java/lang/Object", "<init>", "()V"⟩ ∈ Tw := tw1 27 rfl rfl
theorem qw1_28 : Cond.instanceMethod ⟨"java/lang/Object", "<init>", "()V"⟩ ∈ Tw := tw1 28 rfl rfl
theorem qw1_29 : Cond.code ⟨"java/lang/Object", "<init>", "()V"⟩ object_method_1_code 1 (none : Option FieldType) ∈ Tw := tw1 29 rfl rfl
theorem qw1_30 : Cond.classLink RX4 7 RX0 ∈ Tw := tw1 30 rfl rfl
theorem qw1_31 : Cond.instantiable RX0 2 ∈ Tw := tw1 31 rfl rfl
theorem qw1_32 : Cond.methodLink RX4 9 yX0_init ∈ Tw := tw1 32 rfl rfl
theorem qw1_33 : Cond.instanceMethod yX0_init ∈ Tw := tw1 33 rfl rfl
theorem qw1_34 : Cond.code yX0_init cX0_init 1 (none : Option FieldType) ∈ Tw := tw1 34 rfl rfl
theorem qw1_35 : Cond.methodLink RX0 3 ⟨"java/lang/Object", "<init>", "()V"⟩ ∈ Tw := tw1 35 rfl rfl
theorem qw1_36 : Cond.classLink RX0 9 RX1 ∈ Tw := tw1 36 rfl rfl
theorem qw1_37 : Cond.instantiable RX1 1 ∈ Tw := tw1 37 rfl rfl
theorem qw1_38 : Cond.methodLink RX0 11 yX1_init ∈ Tw := tw1 38 rfl rfl
theorem qw1_39 : Cond.instanceMethod yX1_init ∈ Tw := tw1 39 rfl rfl
theorem qw1_40 : Cond.code yX1_init cX1_init 1 (none : Option FieldType) ∈ Tw := tw1 40 rfl rfl
theorem qw1_41 : Cond.methodLink RX1 3 ⟨"java/lang/Object", "<init>", "()V"⟩ ∈ Tw := tw1 41 rfl rfl
theorem qw1_42 : Cond.classLink RX1 9 RJx4a65c ∈ Tw := tw1 42 rfl rfl
theorem qw1_43 : Cond.instantiable RJx4a65c 3 ∈ Tw := tw1 43 rfl rfl
theorem qw1_44 : Cond.methodLink RX1 11 yJx4a65c_init_da8c8 ∈ Tw := tw1 44 rfl rfl
theorem qw1_45 : Cond.instanceMethod yJx4a65c_init_da8c8 ∈ Tw := tw1 45 rfl rfl
theorem qw1_46 : Cond.code yJx4a65c_init_da8c8 cJx4a65c_init_da8c8 1 (none : Option FieldType) ∈ Tw := tw1 46 rfl rfl
theorem qw1_47 : Cond.methodLink RJx4a65c 1 yJxc12de_init_da8c8 ∈ Tw := tw1 47 rfl rfl
theorem qw1_48 : Cond.instanceMethod yJxc12de_init_da8c8 ∈ Tw := tw1 48 rfl rfl
theorem qw1_49 : Cond.code yJxc12de_init_da8c8 cJxc12de_init_da8c8 1 (none : Option FieldType) ∈ Tw := tw1 49 rfl rfl
theorem qw1_50 : Cond.methodLink RJxc12de 1 yJxa1e45_init_da8c8 ∈ Tw := tw1 50 rfl rfl
theorem qw1_51 : Cond.instanceMethod yJxa1e45_init_da8c8 ∈ Tw := tw1 51 rfl rfl
theorem qw1_52 : Cond.code yJxa1e45_init_da8c8 cJxa1e45_init_da8c8 1 (none : Option FieldType) ∈ Tw := tw1 52 rfl rfl
theorem qw1_53 : Cond.methodLink RJxa1e45 1 ⟨"java/lang/Object", "<init>", "()V"⟩ ∈ Tw := tw1 53 rfl rfl
theorem qw1_54 : Cond.fieldLink RJx4a65c 39 RJx4a65c "DEFAULTCAPACITY_EMPTY_ELEMENTDATA" "[Ljava/lang/Object;" ∈ Tw := tw1 54 rfl rfl
theorem qw1_56 : Cond.fieldLink RJx4a65c 9 RJx4a65c "elementData" "[Ljava/lang/Object;" ∈ Tw := tw1 56 rfl rfl
theorem qw1_57 : Cond.fieldLink RJx4a65c 48 RJx4a65c "size" "I" ∈ Tw := tw1 57 rfl rfl
theorem qw1_58 : Cond.fieldLink RJxc12de 7 RJxc12de "modCount" "I" ∈ Tw := tw1 58 rfl rfl
theorem qw1_59 : Cond.fieldLink RJx4a65c 63 RJx4a65c "modCount" "I" ∈ Tw := tw1 59 rfl rfl
theorem qw1_60 : Cond.sameField RJx4a65c RJxc12de "modCount" "I" ∈ Tw := tw1 60 rfl rfl
theorem qw1_61 : Cond.lays RJx4a65c RJx4a65c "elementData" "[Ljava/lang/Object;" ∈ Tw := tw1 61 rfl rfl
theorem qw1_63 : Cond.lays RJx4a65c RJx4a65c "size" "I" ∈ Tw := tw1 63 rfl rfl
theorem qw1_65 : Cond.lays RJx4a65c RJxc12de "modCount" "I" ∈ Tw := tw1 65 rfl rfl
theorem qw1_68 : Cond.fieldLink RX1 12 RX1 "entries" "Ljava/util/ArrayList;" ∈ Tw := tw1 68 rfl rfl
theorem qw1_69 : Cond.laysFinal RX1 RX1 "entries" "Ljava/util/ArrayList;" ∈ Tw := tw1 69 rfl rfl
theorem qw1_72 : Cond.fieldLink RX0 12 RX0 "firstTown" "LResetline$Diary;" ∈ Tw := tw1 72 rfl rfl
theorem qw1_73 : Cond.fieldLink RX0 18 RX0 "secondTown" "LResetline$Diary;" ∈ Tw := tw1 73 rfl rfl
theorem qw1_74 : Cond.laysFinal RX0 RX0 "firstTown" "LResetline$Diary;" ∈ Tw := tw1 74 rfl rfl
theorem qw1_76 : Cond.laysFinal RX0 RX0 "secondTown" "LResetline$Diary;" ∈ Tw := tw1 76 rfl rfl
theorem qw1_79 : Cond.classLink RX4 16 RX1 ∈ Tw := tw1 79 rfl rfl
theorem qw1_80 : Cond.methodLink RX4 18 yX1_init ∈ Tw := tw1 80 rfl rfl
theorem qw1_81 : Cond.classLink RX4 23 RJx4a65c ∈ Tw := tw1 81 rfl rfl
theorem qw1_82 : Cond.methodLink RX4 25 yJx4a65c_init_da8c8 ∈ Tw := tw1 82 rfl rfl
theorem qw1_83 : Cond.fieldLink RX4 10 RX4 "calendar" "LResetline$Calendar;" ∈ Tw := tw1 83 rfl rfl
theorem qw1_84 : Cond.fieldLink RX4 19 RX4 "fixings" "LResetline$Diary;" ∈ Tw := tw1 84 rfl rfl
theorem qw1_85 : Cond.fieldLink RX4 26 RX4 "book" "Ljava/util/ArrayList;" ∈ Tw := tw1 85 rfl rfl
theorem qw1_86 : Cond.laysFinal RX4 RX4 "calendar" "LResetline$Calendar;" ∈ Tw := tw1 86 rfl rfl
theorem qw1_88 : Cond.laysFinal RX4 RX4 "fixings" "LResetline$Diary;" ∈ Tw := tw1 88 rfl rfl
theorem qw1_90 : Cond.laysFinal RX4 RX4 "book" "Ljava/util/ArrayList;" ∈ Tw := tw1 90 rfl rfl
theorem qw1_93 : Cond.methodLink RL 128 yX4_trades ∈ Tw := tw1 93 rfl rfl
theorem qw1_94 : Cond.instanceMethod yX4_trades ∈ Tw := tw1 94 rfl rfl
theorem qw1_95 : Cond.selects RX4 yX4_trades yX4_trades ∈ Tw := tw1 95 rfl rfl
theorem qw1_96 : Cond.code yX4_trades cX4_trades 1 (some FieldType.int) ∈ Tw := tw1 96 rfl rfl
theorem qw1_97 : Cond.methodLink RX4 85 yJx4a65c_size_8abf5 ∈ Tw := tw1 97 rfl rfl
theorem qw1_98 : Cond.instanceMethod yJx4a65c_size_8abf5 ∈ Tw := tw1 98 rfl rfl
theorem qw1_99 : Cond.selects RJx4a65c yJx4a65c_size_8abf5 yJx4a65c_size_8abf5 ∈ Tw := tw1 99 rfl rfl
theorem qw1_100 : Cond.code yJx4a65c_size_8abf5 cJx4a65c_size_8abf5 1 (some FieldType.int) ∈ Tw := tw1 100 rfl rfl
theorem qw1_101 : Cond.methodLink RL 87 yL_holiday ∈ Tw := tw1 101 rfl rfl
theorem qw1_102 : Cond.static yL_holiday ∈ Tw := tw1 102 rfl rfl
theorem qw1_103 : Cond.codeWith yL_holiday cL_holiday 5 (some FieldType.int) [(0, 10, 13, 13), (0, 10, 17, 15), (0, 10, 21, 17)] ∈ Tw := tw1 103 rfl rfl
theorem qw1_104 : Cond.classLink RL 13 "java/lang/IndexOutOfBoundsException" ∈ Tw := tw1 104 rfl rfl
theorem qw1_105 : Cond.classLink RL 15 "java/lang/IllegalArgumentException" ∈ Tw := tw1 105 rfl rfl
theorem qw1_106 : Cond.classLink RL 17 "java/lang/IllegalStateException" ∈ Tw := tw1 106 rfl rfl
theorem qw1_107 : Cond.methodLink RL 7 yX4_holiday ∈ Tw := tw1 107 rfl rfl
theorem qw1_108 : Cond.instanceMethod yX4_holiday ∈ Tw := tw1 108 rfl rfl
theorem qw1_109 : Cond.selects RX4 yX4_holiday yX4_holiday ∈ Tw := tw1 109 rfl rfl
theorem qw1_110 : Cond.code yX4_holiday cX4_holiday 4 (some FieldType.int) ∈ Tw := tw1 110 rfl rfl
theorem qw1_111 : Cond.classLink RX4 30 "java/lang/IndexOutOfBoundsException" ∈ Tw := tw1 111 rfl rfl
theorem qw1_112 : Cond.instantiable "java/lang/IndexOutOfBoundsException" 6 ∈ Tw := tw1 112 rfl rfl
theorem qw1_120 : Cond.selects "java/lang/IndexOutOfBoundsException" ⟨"java/lang/Throwable", "fillInStackTrace", "(I)Ljava/lang/Throwable;"⟩ ⟨"java/lang/Throwable", "fillInStackTrace", "(I)Ljava/lang/Throwable;"⟩ ∈ Tw := tw1 120 rfl rfl
theorem qw1_121 : Cond.selects "java/lang/IndexOutOfBoundsException" ⟨"java/lang/Throwable", "fillInStackTrace", "()Ljava/lang/Throwable;"⟩ ⟨"java/lang/Throwable", "fillInStackTrace", "()Ljava/lang/Throwable;"⟩ ∈ Tw := tw1 121 rfl rfl
theorem qw1_122 : Cond.lays "java/lang/IndexOutOfBoundsException" "java/lang/Throwable" "cause" "Ljava/lang/Throwable;" ∈ Tw := tw1 122 rfl rfl
theorem qw1_123 : Cond.lays "java/lang/Throwable" "java/lang/Throwable" "cause" "Ljava/lang/Throwable;" ∈ Tw := tw1 123 rfl rfl
theorem qw1_124 : Cond.lays "java/lang/IndexOutOfBoundsException" "java/lang/Throwable" "stackTrace" "[Ljava/lang/StackTraceElement;" ∈ Tw := tw1 124 rfl rfl
theorem qw1_125 : Cond.lays "java/lang/Throwable" "java/lang/Throwable" "stackTrace" "[Ljava/lang/StackTraceElement;" ∈ Tw := tw1 125 rfl rfl
theorem qw1_126 : Cond.lays "java/lang/IndexOutOfBoundsException" "java/lang/Throwable" "suppressedExceptions" "Ljava/util/List;" ∈ Tw := tw1 126 rfl rfl
theorem qw1_127 : Cond.lays "java/lang/Throwable" "java/lang/Throwable" "suppressedExceptions" "Ljava/util/List;" ∈ Tw := tw1 127 rfl rfl
theorem qw1_128 : Cond.lays "java/lang/IndexOutOfBoundsException" "java/lang/Throwable" "detailMessage" "Ljava/lang/String;" ∈ Tw := tw1 128 rfl rfl
theorem qw1_129 : Cond.lays "java/lang/Throwable" "java/lang/Throwable" "detailMessage" "Ljava/lang/String;" ∈ Tw := tw1 129 rfl rfl
theorem qw1_130 : Cond.lays "java/lang/IndexOutOfBoundsException" "java/lang/Throwable" "backtrace" "Ljava/lang/Object;" ∈ Tw := tw1 130 rfl rfl
theorem qw1_131 : Cond.lays "java/lang/Throwable" "java/lang/Throwable" "backtrace" "Ljava/lang/Object;" ∈ Tw := tw1 131 rfl rfl
theorem qw1_132 : Cond.fieldLink "java/lang/Throwable" 198 "java/lang/Throwable" "backtrace" "Ljava/lang/Object;" ∈ Tw := tw1 132 rfl rfl
theorem qw1_134 : Cond.instanceMethod ⟨"java/lang/Throwable", "<init>", "()V"⟩ ∈ Tw := tw1 134 rfl rfl
theorem qw1_135 : Cond.code ⟨"java/lang/Throwable", "<init>", "()V"⟩ prog_19_method_1_code 1 (none : Option FieldType) ∈ Tw := tw1 135 rfl rfl
theorem qw1_136 : Cond.methodLink "java/lang/Throwable" 1 ⟨"java/lang/Object", "<init>", "()V"⟩ ∈ Tw := tw1 136 rfl rfl
theorem qw1_137 : Cond.fieldLink "java/lang/Throwable" 13 "java/lang/Throwable" "UNASSIGNED_STACK" "[Ljava/lang/StackTraceElement;" ∈ Tw := tw1 137 rfl rfl
theorem qw1_139 : Cond.fieldLink "java/lang/Throwable" 20 "java/lang/Throwable" "SUPPRESSED_SENTINEL" "Ljava/util/List;" ∈ Tw := tw1 139 rfl rfl
theorem qw1_141 : Cond.methodLink "java/lang/Throwable" 27 ⟨"java/lang/Throwable", "fillInStackTrace", "()Ljava/lang/Throwable;"⟩ ∈ Tw := tw1 141 rfl rfl
theorem qw1_142 : Cond.instanceMethod ⟨"java/lang/Throwable", "fillInStackTrace", "()Ljava/lang/Throwable;"⟩ ∈ Tw := tw1 142 rfl rfl
theorem qw1_144 : Cond.selects "java/lang/IllegalArgumentException" ⟨"java/lang/Throwable", "fillInStackTrace", "()Ljava/lang/Throwable;"⟩ ⟨"java/lang/Throwable", "fillInStackTrace", "()Ljava/lang/Throwable;"⟩ ∈ Tw := tw1 144 rfl rfl
theorem qw1_145 : Cond.selects "java/lang/IllegalStateException" ⟨"java/lang/Throwable", "fillInStackTrace", "()Ljava/lang/Throwable;"⟩ ⟨"java/lang/Throwable", "fillInStackTrace", "()Ljava/lang/Throwable;"⟩ ∈ Tw := tw1 145 rfl rfl
theorem qw1_147 : Cond.methodLink "java/lang/Throwable" 202 ⟨"java/lang/Throwable", "fillInStackTrace", "(I)Ljava/lang/Throwable;"⟩ ∈ Tw := tw1 147 rfl rfl
theorem qw1_149 : Cond.instanceMethod ⟨"java/lang/Throwable", "fillInStackTrace", "(I)Ljava/lang/Throwable;"⟩ ∈ Tw := tw1 149 rfl rfl
theorem qw1_150 : Cond.instantiable "java/lang/Throwable" 6 ∈ Tw := tw1 150 rfl rfl
theorem qw1_153 : Cond.methodLink RX4 34 ⟨"java/lang/IndexOutOfBoundsException", "<init>", "(Ljava/lang/String;)V"⟩ ∈ Tw := tw1 153 rfl rfl
theorem qw1_154 : Cond.instanceMethod ⟨"java/lang/IndexOutOfBoundsException", "<init>", "(Ljava/lang/String;)V"⟩ ∈ Tw := tw1 154 rfl rfl
theorem qw1_155 : Cond.code ⟨"java/lang/IndexOutOfBoundsException", "<init>", "(Ljava/lang/String;)V"⟩ prog_13_method_2_code 2 (none : Option FieldType) ∈ Tw := tw1 155 rfl rfl
theorem qw1_156 : Cond.methodLink "java/lang/IndexOutOfBoundsException" 7 ⟨"java/lang/RuntimeException", "<init>", "(Ljava/lang/String;)V"⟩ ∈ Tw := tw1 156 rfl rfl
theorem qw1_157 : Cond.instanceMethod ⟨"java/lang/RuntimeException", "<init>", "(Ljava/lang/String;)V"⟩ ∈ Tw := tw1 157 rfl rfl
theorem qw1_158 : Cond.code ⟨"java/lang/RuntimeException", "<init>", "(Ljava/lang/String;)V"⟩ prog_16_method_2_code 2 (none : Option FieldType) ∈ Tw := tw1 158 rfl rfl
theorem qw1_159 : Cond.methodLink "java/lang/RuntimeException" 7 ⟨"java/lang/Exception", "<init>", "(Ljava/lang/String;)V"⟩ ∈ Tw := tw1 159 rfl rfl
theorem qw1_160 : Cond.instanceMethod ⟨"java/lang/Exception", "<init>", "(Ljava/lang/String;)V"⟩ ∈ Tw := tw1 160 rfl rfl
theorem qw1_161 : Cond.code ⟨"java/lang/Exception", "<init>", "(Ljava/lang/String;)V"⟩ prog_10_method_2_code 2 (none : Option FieldType) ∈ Tw := tw1 161 rfl rfl
theorem qw1_162 : Cond.methodLink "java/lang/Exception" 7 ⟨"java/lang/Throwable", "<init>", "(Ljava/lang/String;)V"⟩ ∈ Tw := tw1 162 rfl rfl
theorem qw1_163 : Cond.instanceMethod ⟨"java/lang/Throwable", "<init>", "(Ljava/lang/String;)V"⟩ ∈ Tw := tw1 163 rfl rfl
theorem qw1_164 : Cond.code ⟨"java/lang/Throwable", "<init>", "(Ljava/lang/String;)V"⟩ prog_19_method_2_code 2 (none : Option FieldType) ∈ Tw := tw1 164 rfl rfl
theorem qw1_165 : Cond.fieldLink "java/lang/Throwable" 198 "java/lang/Throwable" "backtrace" "Ljava/lang/Object;" ∈ Tw := tw1 165 rfl rfl
theorem qw1_166 : Cond.fieldLink "java/lang/Throwable" 31 "java/lang/Throwable" "detailMessage" "Ljava/lang/String;" ∈ Tw := tw1 166 rfl rfl
theorem qw1_167 : Cond.fieldLink "java/lang/Throwable" 7 "java/lang/Throwable" "cause" "Ljava/lang/Throwable;" ∈ Tw := tw1 167 rfl rfl
theorem qw1_168 : Cond.fieldLink "java/lang/Throwable" 17 "java/lang/Throwable" "stackTrace" "[Ljava/lang/StackTraceElement;" ∈ Tw := tw1 168 rfl rfl
theorem qw1_169 : Cond.fieldLink "java/lang/Throwable" 24 "java/lang/Throwable" "suppressedExceptions" "Ljava/util/List;" ∈ Tw := tw1 169 rfl rfl
theorem qw1_174 : Cond.lays "java/lang/IndexOutOfBoundsException" "java/lang/Throwable" "depth" "I" ∈ Tw := tw1 174 rfl rfl
theorem qw1_178 : Cond.arrayClass FieldType.byte ∈ Tw := tw1 178 rfl rfl
theorem qw1_179 : Cond.methodLink RX4 37 yX4_checkRange ∈ Tw := tw1 179 rfl rfl
theorem qw1_180 : Cond.static yX4_checkRange ∈ Tw := tw1 180 rfl rfl
theorem qw1_181 : Cond.code yX4_checkRange cX4_checkRange 3 (none : Option FieldType) ∈ Tw := tw1 181 rfl rfl
theorem qw1_182 : Cond.classLink RX4 176 "java/lang/IllegalArgumentException" ∈ Tw := tw1 182 rfl rfl
theorem qw1_183 : Cond.instantiable "java/lang/IllegalArgumentException" 6 ∈ Tw := tw1 183 rfl rfl
theorem qw1_185 : Cond.selects "java/lang/IllegalArgumentException" ⟨"java/lang/Throwable", "fillInStackTrace", "(I)Ljava/lang/Throwable;"⟩ ⟨"java/lang/Throwable", "fillInStackTrace", "(I)Ljava/lang/Throwable;"⟩ ∈ Tw := tw1 185 rfl rfl
theorem qw1_186 : Cond.lays "java/lang/IllegalArgumentException" "java/lang/Throwable" "cause" "Ljava/lang/Throwable;" ∈ Tw := tw1 186 rfl rfl
theorem qw1_187 : Cond.lays "java/lang/IllegalArgumentException" "java/lang/Throwable" "stackTrace" "[Ljava/lang/StackTraceElement;" ∈ Tw := tw1 187 rfl rfl
theorem qw1_188 : Cond.lays "java/lang/IllegalArgumentException" "java/lang/Throwable" "suppressedExceptions" "Ljava/util/List;" ∈ Tw := tw1 188 rfl rfl
theorem qw1_189 : Cond.lays "java/lang/IllegalArgumentException" "java/lang/Throwable" "detailMessage" "Ljava/lang/String;" ∈ Tw := tw1 189 rfl rfl
theorem qw1_190 : Cond.lays "java/lang/IllegalArgumentException" "java/lang/Throwable" "backtrace" "Ljava/lang/Object;" ∈ Tw := tw1 190 rfl rfl
theorem qw1_192 : Cond.methodLink RX4 180 ⟨"java/lang/IllegalArgumentException", "<init>", "(Ljava/lang/String;)V"⟩ ∈ Tw := tw1 192 rfl rfl
theorem qw1_193 : Cond.instanceMethod ⟨"java/lang/IllegalArgumentException", "<init>", "(Ljava/lang/String;)V"⟩ ∈ Tw := tw1 193 rfl rfl
theorem qw1_194 : Cond.code ⟨"java/lang/IllegalArgumentException", "<init>", "(Ljava/lang/String;)V"⟩ prog_11_method_2_code 2 (none : Option FieldType) ∈ Tw := tw1 194 rfl rfl
theorem qw1_195 : Cond.methodLink "java/lang/IllegalArgumentException" 7 ⟨"java/lang/RuntimeException", "<init>", "(Ljava/lang/String;)V"⟩ ∈ Tw := tw1 195 rfl rfl
theorem qw1_196 : Cond.lays "java/lang/IllegalArgumentException" "java/lang/Throwable" "depth" "I" ∈ Tw := tw1 196 rfl rfl
theorem qw1_198 : Cond.methodLink RX4 41 yX0_holidaysOf ∈ Tw := tw1 198 rfl rfl
theorem qw1_199 : Cond.instanceMethod yX0_holidaysOf ∈ Tw := tw1 199 rfl rfl
theorem qw1_200 : Cond.selects RX0 yX0_holidaysOf yX0_holidaysOf ∈ Tw := tw1 200 rfl rfl
theorem qw1_201 : Cond.code yX0_holidaysOf cX0_holidaysOf 2 (some (FieldType.object RX1)) ∈ Tw := tw1 201 rfl rfl
theorem qw1_202 : Cond.methodLink RX4 45 yX1_count ∈ Tw := tw1 202 rfl rfl
theorem qw1_203 : Cond.instanceMethod yX1_count ∈ Tw := tw1 203 rfl rfl
theorem qw1_204 : Cond.selects RX1 yX1_count yX1_count ∈ Tw := tw1 204 rfl rfl
theorem qw1_205 : Cond.code yX1_count cX1_count 1 (some FieldType.int) ∈ Tw := tw1 205 rfl rfl
theorem qw1_206 : Cond.methodLink RX1 18 yJx4a65c_size_8abf5 ∈ Tw := tw1 206 rfl rfl
theorem qw1_207 : Cond.methodLink RX4 49 yX1_has ∈ Tw := tw1 207 rfl rfl
theorem qw1_208 : Cond.instanceMethod yX1_has ∈ Tw := tw1 208 rfl rfl
theorem qw1_209 : Cond.selects RX1 yX1_has yX1_has ∈ Tw := tw1 209 rfl rfl
theorem qw1_210 : Cond.code yX1_has cX1_has 2 (some FieldType.boolean) ∈ Tw := tw1 210 rfl rfl
theorem qw1_211 : Cond.methodLink RX1 22 yX1_entryOf ∈ Tw := tw1 211 rfl rfl
theorem qw1_213 : Cond.instanceMethod yX1_entryOf ∈ Tw := tw1 213 rfl rfl
theorem qw1_214 : Cond.code yX1_entryOf cX1_entryOf 4 (some (FieldType.object RX2)) ∈ Tw := tw1 214 rfl rfl
theorem qw1_215 : Cond.methodLink RX1 41 yJx4a65c_get_915e3 ∈ Tw := tw1 215 rfl rfl
theorem qw1_216 : Cond.instanceMethod yJx4a65c_get_915e3 ∈ Tw := tw1 216 rfl rfl
theorem qw1_217 : Cond.selects RJx4a65c yJx4a65c_get_915e3 yJx4a65c_get_915e3 ∈ Tw := tw1 217 rfl rfl
theorem qw1_218 : Cond.code yJx4a65c_get_915e3 cJx4a65c_get_915e3 2 (some (FieldType.object "java/lang/Object")) ∈ Tw := tw1 218 rfl rfl
theorem qw1_219 : Cond.methodLink RJx4a65c 118 yJ15_checkIndex_7cf53 ∈ Tw := tw1 219 rfl rfl
theorem qw1_220 : Cond.static yJ15_checkIndex_7cf53 ∈ Tw := tw1 220 rfl rfl
theorem qw1_221 : Cond.code yJ15_checkIndex_7cf53 cJ15_checkIndex_7cf53 2 (some FieldType.int) ∈ Tw := tw1 221 rfl rfl
theorem qw1_222 : Cond.methodLink RJ15 105 yJ3_checkIndex_8e157 ∈ Tw := tw1 222 rfl rfl
theorem qw1_223 : Cond.static yJ3_checkIndex_8e157 ∈ Tw := tw1 223 rfl rfl
theorem qw1_224 : Cond.code yJ3_checkIndex_8e157 cJ3_checkIndex_8e157 3 (some FieldType.int) ∈ Tw := tw1 224 rfl rfl
theorem qw1_225 : Cond.methodLink RJx4a65c 123 yJx4a65c_elementData_915e3 ∈ Tw := tw1 225 rfl rfl
theorem qw1_226 : Cond.instanceMethod yJx4a65c_elementData_915e3 ∈ Tw := tw1 226 rfl rfl
theorem qw1_227 : Cond.selects RJx4a65c yJx4a65c_elementData_915e3 yJx4a65c_elementData_915e3 ∈ Tw := tw1 227 rfl rfl
theorem qw1_228 : Cond.code yJx4a65c_elementData_915e3 cJx4a65c_elementData_915e3 2 (some (FieldType.object "java/lang/Object")) ∈ Tw := tw1 228 rfl rfl
theorem qw1_229 : Cond.classLink RX1 26 RX2 ∈ Tw := tw1 229 rfl rfl
theorem qw1_230 : Cond.classLink RX4 53 "java/lang/IllegalStateException" ∈ Tw := tw1 230 rfl rfl
theorem qw1_231 : Cond.instantiable "java/lang/IllegalStateException" 6 ∈ Tw := tw1 231 rfl rfl
theorem qw1_233 : Cond.selects "java/lang/IllegalStateException" ⟨"java/lang/Throwable", "fillInStackTrace", "(I)Ljava/lang/Throwable;"⟩ ⟨"java/lang/Throwable", "fillInStackTrace", "(I)Ljava/lang/Throwable;"⟩ ∈ Tw := tw1 233 rfl rfl
theorem qw1_234 : Cond.lays "java/lang/IllegalStateException" "java/lang/Throwable" "cause" "Ljava/lang/Throwable;" ∈ Tw := tw1 234 rfl rfl
theorem qw1_235 : Cond.lays "java/lang/IllegalStateException" "java/lang/Throwable" "stackTrace" "[Ljava/lang/StackTraceElement;" ∈ Tw := tw1 235 rfl rfl
theorem qw1_236 : Cond.lays "java/lang/IllegalStateException" "java/lang/Throwable" "suppressedExceptions" "Ljava/util/List;" ∈ Tw := tw1 236 rfl rfl
theorem qw1_237 : Cond.lays "java/lang/IllegalStateException" "java/lang/Throwable" "detailMessage" "Ljava/lang/String;" ∈ Tw := tw1 237 rfl rfl
theorem qw1_238 : Cond.lays "java/lang/IllegalStateException" "java/lang/Throwable" "backtrace" "Ljava/lang/Object;" ∈ Tw := tw1 238 rfl rfl
theorem qw2_0 : Cond.methodLink RX4 57 ⟨"java/lang/IllegalStateException", "<init>", "(Ljava/lang/String;)V"⟩ ∈ Tw := tw2 0 rfl rfl
theorem qw2_1 : Cond.instanceMethod ⟨"java/lang/IllegalStateException", "<init>", "(Ljava/lang/String;)V"⟩ ∈ Tw := tw2 1 rfl rfl
theorem qw2_2 : Cond.code ⟨"java/lang/IllegalStateException", "<init>", "(Ljava/lang/String;)V"⟩ prog_12_method_2_code 2 (none : Option FieldType) ∈ Tw := tw2 2 rfl rfl
theorem qw2_3 : Cond.methodLink "java/lang/IllegalStateException" 7 ⟨"java/lang/RuntimeException", "<init>", "(Ljava/lang/String;)V"⟩ ∈ Tw := tw2 3 rfl rfl
theorem qw2_4 : Cond.lays "java/lang/IllegalStateException" "java/lang/Throwable" "depth" "I" ∈ Tw := tw2 4 rfl rfl
theorem qw2_6 : Cond.methodLink RX4 58 yX1_add ∈ Tw := tw2 6 rfl rfl
theorem qw2_7 : Cond.instanceMethod yX1_add ∈ Tw := tw2 7 rfl rfl
theorem qw2_8 : Cond.selects RX1 yX1_add yX1_add ∈ Tw := tw2 8 rfl rfl
theorem qw2_9 : Cond.code yX1_add cX1_add 3 (none : Option FieldType) ∈ Tw := tw2 9 rfl rfl
theorem qw2_10 : Cond.instantiable RX2 2 ∈ Tw := tw2 10 rfl rfl
theorem qw2_11 : Cond.methodLink RX1 28 yX2_init ∈ Tw := tw2 11 rfl rfl
theorem qw2_12 : Cond.instanceMethod yX2_init ∈ Tw := tw2 12 rfl rfl
theorem qw2_13 : Cond.code yX2_init cX2_init 3 (none : Option FieldType) ∈ Tw := tw2 13 rfl rfl
theorem qw2_14 : Cond.methodLink RX2 1 ⟨"java/lang/Object", "<init>", "()V"⟩ ∈ Tw := tw2 14 rfl rfl
theorem qw2_15 : Cond.fieldLink RX2 7 RX2 "day" "I" ∈ Tw := tw2 15 rfl rfl
theorem qw2_16 : Cond.fieldLink RX1 45 RX2 "day" "I" ∈ Tw := tw2 16 rfl rfl
theorem qw2_17 : Cond.fieldLink RX2 13 RX2 "value" "I" ∈ Tw := tw2 17 rfl rfl
theorem qw2_18 : Cond.fieldLink RX1 37 RX2 "value" "I" ∈ Tw := tw2 18 rfl rfl
theorem qw2_19 : Cond.laysFinal RX2 RX2 "day" "I" ∈ Tw := tw2 19 rfl rfl
theorem qw2_21 : Cond.lays RX2 RX2 "value" "I" ∈ Tw := tw2 21 rfl rfl
theorem qw2_24 : Cond.methodLink RX1 31 yJx4a65c_add_9ea2d ∈ Tw := tw2 24 rfl rfl
theorem qw2_25 : Cond.instanceMethod yJx4a65c_add_9ea2d ∈ Tw := tw2 25 rfl rfl
theorem qw2_26 : Cond.selects RJx4a65c yJx4a65c_add_9ea2d yJx4a65c_add_9ea2d ∈ Tw := tw2 26 rfl rfl
theorem qw2_27 : Cond.code yJx4a65c_add_9ea2d cJx4a65c_add_9ea2d 2 (some FieldType.boolean) ∈ Tw := tw2 27 rfl rfl
theorem qw2_28 : Cond.methodLink RJx4a65c 131 yJx4a65c_add_72be8 ∈ Tw := tw2 28 rfl rfl
theorem qw2_30 : Cond.instanceMethod yJx4a65c_add_72be8 ∈ Tw := tw2 30 rfl rfl
theorem qw2_31 : Cond.code yJx4a65c_add_72be8 cJx4a65c_add_72be8 4 (none : Option FieldType) ∈ Tw := tw2 31 rfl rfl
theorem qw2_32 : Cond.methodLink RJx4a65c 129 yJx4a65c_grow_d5877 ∈ Tw := tw2 32 rfl rfl
theorem qw2_34 : Cond.instanceMethod yJx4a65c_grow_d5877 ∈ Tw := tw2 34 rfl rfl
theorem qw2_35 : Cond.code yJx4a65c_grow_d5877 cJx4a65c_grow_d5877 1 (some (FieldType.array (FieldType.object "java/lang/Object"))) ∈ Tw := tw2 35 rfl rfl
theorem qw2_36 : Cond.methodLink RJx4a65c 69 yJx4a65c_grow_92f84 ∈ Tw := tw2 36 rfl rfl
theorem qw2_38 : Cond.instanceMethod yJx4a65c_grow_92f84 ∈ Tw := tw2 38 rfl rfl
theorem qw2_39 : Cond.code yJx4a65c_grow_92f84 cJx4a65c_grow_92f84 4 (some (FieldType.array (FieldType.object "java/lang/Object"))) ∈ Tw := tw2 39 rfl rfl
theorem qw2_40 : Cond.methodLink RJx4a65c 73 yJ8_newLength_cabcc ∈ Tw := tw2 40 rfl rfl
theorem qw2_41 : Cond.static yJ8_newLength_cabcc ∈ Tw := tw2 41 rfl rfl
theorem qw2_42 : Cond.code yJ8_newLength_cabcc cJ8_newLength_cabcc 4 (some FieldType.int) ∈ Tw := tw2 42 rfl rfl
theorem qw2_43 : Cond.methodLink RJ8 194 yJ9_max_7cf53 ∈ Tw := tw2 43 rfl rfl
theorem qw2_44 : Cond.static yJ9_max_7cf53 ∈ Tw := tw2 44 rfl rfl
theorem qw2_45 : Cond.code yJ9_max_7cf53 cJ9_max_7cf53 2 (some FieldType.int) ∈ Tw := tw2 45 rfl rfl
theorem qw2_46 : Cond.constant RJ8 200 (2147483639 : Int32) ∈ Tw := tw2 46 rfl rfl
theorem qw2_47 : Cond.methodLink RJ8 201 yJ8_hugeLength_7cf53 ∈ Tw := tw2 47 rfl rfl
theorem qw2_48 : Cond.static yJ8_hugeLength_7cf53 ∈ Tw := tw2 48 rfl rfl
theorem qw2_49 : Cond.code yJ8_hugeLength_7cf53 cJ8_hugeLength_7cf53 3 (some FieldType.int) ∈ Tw := tw2 49 rfl rfl
theorem qw2_50 : Cond.methodLink RJx4a65c 66 yJ7_copyOf_1904c ∈ Tw := tw2 50 rfl rfl
theorem qw2_51 : Cond.static yJ7_copyOf_1904c ∈ Tw := tw2 51 rfl rfl
theorem qw2_52 : Cond.code yJ7_copyOf_1904c cJ7_copyOf_1904c 2 (some (FieldType.array (FieldType.object "java/lang/Object"))) ∈ Tw := tw2 52 rfl rfl
theorem qw2_53 : Cond.methodLink RJ7 86 ⟨"java/lang/Object", "getClass", "()Ljava/lang/Class;"⟩ ∈ Tw := tw2 53 rfl rfl
theorem qw2_54 : Cond.instanceMethod ⟨"java/lang/Object", "getClass", "()Ljava/lang/Class;"⟩ ∈ Tw := tw2 54 rfl rfl
theorem qw2_56 : Cond.selects RX4 ⟨"java/lang/Object", "getClass", "()Ljava/lang/Class;"⟩ ⟨"java/lang/Object", "getClass", "()Ljava/lang/Class;"⟩ ∈ Tw := tw2 56 rfl rfl
theorem qw2_57 : Cond.selects RX0 ⟨"java/lang/Object", "getClass", "()Ljava/lang/Class;"⟩ ⟨"java/lang/Object", "getClass", "()Ljava/lang/Class;"⟩ ∈ Tw := tw2 57 rfl rfl
theorem qw2_58 : Cond.selects RX1 ⟨"java/lang/Object", "getClass", "()Ljava/lang/Class;"⟩ ⟨"java/lang/Object", "getClass", "()Ljava/lang/Class;"⟩ ∈ Tw := tw2 58 rfl rfl
theorem qw2_59 : Cond.selects RX2 ⟨"java/lang/Object", "getClass", "()Ljava/lang/Class;"⟩ ⟨"java/lang/Object", "getClass", "()Ljava/lang/Class;"⟩ ∈ Tw := tw2 59 rfl rfl
theorem qw2_60 : Cond.selects RX3 ⟨"java/lang/Object", "getClass", "()Ljava/lang/Class;"⟩ ⟨"java/lang/Object", "getClass", "()Ljava/lang/Class;"⟩ ∈ Tw := tw2 60 rfl rfl
theorem qw2_61 : Cond.selects RX5 ⟨"java/lang/Object", "getClass", "()Ljava/lang/Class;"⟩ ⟨"java/lang/Object", "getClass", "()Ljava/lang/Class;"⟩ ∈ Tw := tw2 61 rfl rfl
theorem qw2_62 : Cond.selects "java/lang/IllegalArgumentException" ⟨"java/lang/Object", "getClass", "()Ljava/lang/Class;"⟩ ⟨"java/lang/Object", "getClass", "()Ljava/lang/Class;"⟩ ∈ Tw := tw2 62 rfl rfl
theorem qw2_63 : Cond.selects "java/lang/IllegalStateException" ⟨"java/lang/Object", "getClass", "()Ljava/lang/Class;"⟩ ⟨"java/lang/Object", "getClass", "()Ljava/lang/Class;"⟩ ∈ Tw := tw2 63 rfl rfl
theorem qw2_64 : Cond.selects "java/lang/IndexOutOfBoundsException" ⟨"java/lang/Object", "getClass", "()Ljava/lang/Class;"⟩ ⟨"java/lang/Object", "getClass", "()Ljava/lang/Class;"⟩ ∈ Tw := tw2 64 rfl rfl
theorem qw2_65 : Cond.selects RJx4a65c ⟨"java/lang/Object", "getClass", "()Ljava/lang/Class;"⟩ ⟨"java/lang/Object", "getClass", "()Ljava/lang/Class;"⟩ ∈ Tw := tw2 65 rfl rfl
theorem qw2_67 : Cond.methodLink RJ7 300 yJ7_copyOf_6403c ∈ Tw := tw2 67 rfl rfl
theorem qw2_68 : Cond.static yJ7_copyOf_6403c ∈ Tw := tw2 68 rfl rfl
theorem qw2_69 : Cond.code yJ7_copyOf_6403c cJ7_copyOf_6403c 4 (some (FieldType.array (FieldType.object "java/lang/Object"))) ∈ Tw := tw2 69 rfl rfl
theorem qw2_70 : Cond.classLink RJ7 110 "[Ljava/lang/Object;" ∈ Tw := tw2 70 rfl rfl
theorem qw2_72 : Cond.classLink RJ7 2 "java/lang/Object" ∈ Tw := tw2 72 rfl rfl
theorem qw2_73 : Cond.methodLink RJ7 304 yJ9_min_7cf53 ∈ Tw := tw2 73 rfl rfl
theorem qw2_74 : Cond.static yJ9_min_7cf53 ∈ Tw := tw2 74 rfl rfl
theorem qw2_75 : Cond.code yJ9_min_7cf53 cJ9_min_7cf53 2 (some FieldType.int) ∈ Tw := tw2 75 rfl rfl
theorem qw2_76 : Cond.methodLink RJ7 150 ⟨RJ10, "arraycopy", "(Ljava/lang/Object;ILjava/lang/Object;II)V"⟩ ∈ Tw := tw2 76 rfl rfl
theorem qw2_77 : Cond.static ⟨RJ10, "arraycopy", "(Ljava/lang/Object;ILjava/lang/Object;II)V"⟩ ∈ Tw := tw2 77 rfl rfl
theorem qw2_79 : Cond.methodLink RJx4a65c 79 yJ9_max_7cf53 ∈ Tw := tw2 79 rfl rfl
theorem qw2_80 : Cond.classLink RJx4a65c 7 "java/lang/Object" ∈ Tw := tw2 80 rfl rfl
theorem qw2_81 : Cond.methodLink RX4 62 yX4_rollAllTrades ∈ Tw := tw2 81 rfl rfl
theorem qw2_83 : Cond.instanceMethod yX4_rollAllTrades ∈ Tw := tw2 83 rfl rfl
theorem qw2_84 : Cond.code yX4_rollAllTrades cX4_rollAllTrades 2 (none : Option FieldType) ∈ Tw := tw2 84 rfl rfl
theorem qw2_85 : Cond.methodLink RX4 134 yJx4a65c_get_915e3 ∈ Tw := tw2 85 rfl rfl
theorem qw2_86 : Cond.classLink RX4 90 RX3 ∈ Tw := tw2 86 rfl rfl
theorem qw2_87 : Cond.methodLink RX4 95 yX3_rollDays ∈ Tw := tw2 87 rfl rfl
theorem qw2_88 : Cond.instanceMethod yX3_rollDays ∈ Tw := tw2 88 rfl rfl
theorem qw2_89 : Cond.selects RX3 yX3_rollDays yX3_rollDays ∈ Tw := tw2 89 rfl rfl
theorem qw2_90 : Cond.code yX3_rollDays cX3_rollDays 3 (none : Option FieldType) ∈ Tw := tw2 90 rfl rfl
theorem qw2_91 : Cond.methodLink RX3 57 yX0_rolledDayOf ∈ Tw := tw2 91 rfl rfl
theorem qw2_92 : Cond.instanceMethod yX0_rolledDayOf ∈ Tw := tw2 92 rfl rfl
theorem qw2_93 : Cond.selects RX0 yX0_rolledDayOf yX0_rolledDayOf ∈ Tw := tw2 93 rfl rfl
theorem qw2_94 : Cond.code yX0_rolledDayOf cX0_rolledDayOf 4 (some FieldType.int) ∈ Tw := tw2 94 rfl rfl
theorem qw2_95 : Cond.methodLink RX0 31 yX0_opensOn ∈ Tw := tw2 95 rfl rfl
theorem qw2_96 : Cond.instanceMethod yX0_opensOn ∈ Tw := tw2 96 rfl rfl
theorem qw2_97 : Cond.selects RX0 yX0_opensOn yX0_opensOn ∈ Tw := tw2 97 rfl rfl
theorem qw2_98 : Cond.code yX0_opensOn cX0_opensOn 2 (some FieldType.boolean) ∈ Tw := tw2 98 rfl rfl
theorem qw2_99 : Cond.methodLink RX0 21 yJ9_floorMod_7cf53 ∈ Tw := tw2 99 rfl rfl
theorem qw2_100 : Cond.static yJ9_floorMod_7cf53 ∈ Tw := tw2 100 rfl rfl
theorem qw2_101 : Cond.code yJ9_floorMod_7cf53 cJ9_floorMod_7cf53 3 (some FieldType.int) ∈ Tw := tw2 101 rfl rfl
theorem qw2_102 : Cond.methodLink RX0 27 yX1_has ∈ Tw := tw2 102 rfl rfl
theorem qw2_103 : Cond.methodLink RL 97 yL_isOpen ∈ Tw := tw2 103 rfl rfl
theorem qw2_104 : Cond.static yL_isOpen ∈ Tw := tw2 104 rfl rfl
theorem qw2_105 : Cond.codeWith yL_isOpen cL_isOpen 4 (some FieldType.int) [(0, 16, 19, 15)] ∈ Tw := tw2 105 rfl rfl
theorem qw2_106 : Cond.methodLink RL 19 yX4_isOpen ∈ Tw := tw2 106 rfl rfl
theorem qw2_107 : Cond.instanceMethod yX4_isOpen ∈ Tw := tw2 107 rfl rfl
theorem qw2_108 : Cond.selects RX4 yX4_isOpen yX4_isOpen ∈ Tw := tw2 108 rfl rfl
theorem qw2_109 : Cond.code yX4_isOpen cX4_isOpen 2 (some FieldType.boolean) ∈ Tw := tw2 109 rfl rfl
theorem qw2_110 : Cond.methodLink RX4 65 yX0_opensOn ∈ Tw := tw2 110 rfl rfl
theorem qw2_111 : Cond.methodLink RL 101 yL_roll ∈ Tw := tw2 111 rfl rfl
theorem qw2_112 : Cond.static yL_roll ∈ Tw := tw2 112 rfl rfl
theorem qw2_113 : Cond.codeWith yL_roll cL_roll 4 (some FieldType.int) [(0, 9, 12, 15)] ∈ Tw := tw2 113 rfl rfl
theorem qw2_114 : Cond.methodLink RL 23 yX4_roll ∈ Tw := tw2 114 rfl rfl
theorem qw2_115 : Cond.instanceMethod yX4_roll ∈ Tw := tw2 115 rfl rfl
theorem qw2_116 : Cond.selects RX4 yX4_roll yX4_roll ∈ Tw := tw2 116 rfl rfl
theorem qw2_117 : Cond.code yX4_roll cX4_roll 2 (some FieldType.int) ∈ Tw := tw2 117 rfl rfl
theorem qw2_118 : Cond.methodLink RX4 68 yX0_rolledDayOf ∈ Tw := tw2 118 rfl rfl
theorem qw2_119 : Cond.methodLink RL 104 yL_fix ∈ Tw := tw2 119 rfl rfl
theorem qw2_120 : Cond.static yL_fix ∈ Tw := tw2 120 rfl rfl
theorem qw2_121 : Cond.codeWith yL_fix cL_fix 5 (some FieldType.int) [(0, 10, 13, 15), (0, 10, 17, 17)] ∈ Tw := tw2 121 rfl rfl
theorem qw2_122 : Cond.methodLink RL 27 yX4_fix ∈ Tw := tw2 122 rfl rfl
theorem qw2_123 : Cond.instanceMethod yX4_fix ∈ Tw := tw2 123 rfl rfl
theorem qw2_124 : Cond.selects RX4 yX4_fix yX4_fix ∈ Tw := tw2 124 rfl rfl
theorem qw2_125 : Cond.code yX4_fix cX4_fix 3 (some FieldType.int) ∈ Tw := tw2 125 rfl rfl
theorem qw2_127 : Cond.methodLink RX4 74 yX1_put ∈ Tw := tw2 127 rfl rfl
theorem qw2_128 : Cond.instanceMethod yX1_put ∈ Tw := tw2 128 rfl rfl
theorem qw2_129 : Cond.selects RX1 yX1_put yX1_put ∈ Tw := tw2 129 rfl rfl
theorem qw2_130 : Cond.code yX1_put cX1_put 4 (none : Option FieldType) ∈ Tw := tw2 130 rfl rfl
theorem qw2_131 : Cond.methodLink RX1 35 yX1_add ∈ Tw := tw2 131 rfl rfl
theorem qw2_132 : Cond.methodLink RL 107 yL_rateFor ∈ Tw := tw2 132 rfl rfl
theorem qw2_133 : Cond.static yL_rateFor ∈ Tw := tw2 133 rfl rfl
theorem qw2_134 : Cond.codeWith yL_rateFor cL_rateFor 4 (some FieldType.int) [(0, 9, 12, 15)] ∈ Tw := tw2 134 rfl rfl
theorem qw2_135 : Cond.methodLink RL 30 yX4_rateFor ∈ Tw := tw2 135 rfl rfl
theorem qw2_136 : Cond.instanceMethod yX4_rateFor ∈ Tw := tw2 136 rfl rfl
theorem qw2_137 : Cond.selects RX4 yX4_rateFor yX4_rateFor ∈ Tw := tw2 137 rfl rfl
theorem qw2_138 : Cond.code yX4_rateFor cX4_rateFor 2 (some FieldType.int) ∈ Tw := tw2 138 rfl rfl
theorem qw2_139 : Cond.methodLink RX4 77 yX1_latestValue ∈ Tw := tw2 139 rfl rfl
theorem qw2_140 : Cond.instanceMethod yX1_latestValue ∈ Tw := tw2 140 rfl rfl
theorem qw2_141 : Cond.selects RX1 yX1_latestValue yX1_latestValue ∈ Tw := tw2 141 rfl rfl
theorem qw2_142 : Cond.code yX1_latestValue cX1_latestValue 7 (some FieldType.int) ∈ Tw := tw2 142 rfl rfl
theorem qw2_143 : Cond.methodLink RL 110 yL_trade ∈ Tw := tw2 143 rfl rfl
theorem qw2_144 : Cond.static yL_trade ∈ Tw := tw2 144 rfl rfl
theorem qw2_145 : Cond.codeWith yL_trade cL_trade 10 (some FieldType.int) [(0, 20, 23, 13), (0, 20, 27, 15), (0, 20, 31, 17)] ∈ Tw := tw2 145 rfl rfl
theorem qw2_146 : Cond.methodLink RL 33 yX4_trade ∈ Tw := tw2 146 rfl rfl
theorem qw2_147 : Cond.instanceMethod yX4_trade ∈ Tw := tw2 147 rfl rfl
theorem qw2_148 : Cond.selects RX4 yX4_trade yX4_trade ∈ Tw := tw2 148 rfl rfl
theorem qw2_149 : Cond.code yX4_trade cX4_trade 9 (some FieldType.int) ∈ Tw := tw2 149 rfl rfl
theorem qw2_150 : Cond.methodLink RX4 81 yX4_checkParty ∈ Tw := tw2 150 rfl rfl
theorem qw2_151 : Cond.static yX4_checkParty ∈ Tw := tw2 151 rfl rfl
theorem qw2_152 : Cond.code yX4_checkParty cX4_checkParty 1 (none : Option FieldType) ∈ Tw := tw2 152 rfl rfl
theorem qw2_155 : Cond.instantiable RX3 13 ∈ Tw := tw2 155 rfl rfl
theorem qw2_156 : Cond.methodLink RX4 92 yX3_init ∈ Tw := tw2 156 rfl rfl
theorem qw2_157 : Cond.instanceMethod yX3_init ∈ Tw := tw2 157 rfl rfl
theorem qw2_158 : Cond.code yX3_init cX3_init 8 (none : Option FieldType) ∈ Tw := tw2 158 rfl rfl
theorem qw2_159 : Cond.methodLink RX3 3 ⟨"java/lang/Object", "<init>", "()V"⟩ ∈ Tw := tw2 159 rfl rfl
theorem qw2_160 : Cond.classLink RX3 43 RX1 ∈ Tw := tw2 160 rfl rfl
theorem qw2_161 : Cond.methodLink RX3 45 yX1_init ∈ Tw := tw2 161 rfl rfl
theorem qw2_162 : Cond.fieldLink RX3 9 RX3 "party" "I" ∈ Tw := tw2 162 rfl rfl
theorem qw2_163 : Cond.fieldLink RX3 15 RX3 "lots" "I" ∈ Tw := tw2 163 rfl rfl
theorem qw2_164 : Cond.fieldLink RX3 18 RX3 "paysFixed" "Z" ∈ Tw := tw2 164 rfl rfl
theorem qw2_165 : Cond.fieldLink RX3 22 RX3 "fixed" "I" ∈ Tw := tw2 165 rfl rfl
theorem qw2_166 : Cond.fieldLink RX3 25 RX3 "first" "I" ∈ Tw := tw2 166 rfl rfl
theorem qw2_167 : Cond.fieldLink RX3 28 RX3 "length" "I" ∈ Tw := tw2 167 rfl rfl
theorem qw2_168 : Cond.fieldLink RX3 31 RX3 "periods" "I" ∈ Tw := tw2 168 rfl rfl
theorem qw2_169 : Cond.fieldLink RX4 190 RX3 "periods" "I" ∈ Tw := tw2 169 rfl rfl
theorem qw2_170 : Cond.fieldLink RX3 34 RX3 "spread" "I" ∈ Tw := tw2 170 rfl rfl
theorem qw2_171 : Cond.fieldLink RX4 111 RX3 "spread" "I" ∈ Tw := tw2 171 rfl rfl
theorem qw2_172 : Cond.fieldLink RX3 37 RX3 "dayCount" "I" ∈ Tw := tw2 172 rfl rfl
theorem qw2_173 : Cond.fieldLink RX4 115 RX3 "dayCount" "I" ∈ Tw := tw2 173 rfl rfl
theorem qw2_174 : Cond.fieldLink RX3 40 RX3 "compounding" "I" ∈ Tw := tw2 174 rfl rfl
theorem qw2_175 : Cond.fieldLink RX4 118 RX3 "compounding" "I" ∈ Tw := tw2 175 rfl rfl
theorem qw2_176 : Cond.fieldLink RX3 46 RX3 "breaks" "LResetline$Diary;" ∈ Tw := tw2 176 rfl rfl
theorem qw2_177 : Cond.fieldLink RX4 106 RX3 "breaks" "LResetline$Diary;" ∈ Tw := tw2 177 rfl rfl
theorem qw2_178 : Cond.fieldLink RX3 50 RX3 "handovers" "LResetline$Diary;" ∈ Tw := tw2 178 rfl rfl
theorem qw2_179 : Cond.fieldLink RX4 126 RX3 "handovers" "LResetline$Diary;" ∈ Tw := tw2 179 rfl rfl
theorem qw2_180 : Cond.fieldLink RX3 53 RX3 "bounds" "[I" ∈ Tw := tw2 180 rfl rfl
theorem qw2_181 : Cond.laysFinal RX3 RX3 "party" "I" ∈ Tw := tw2 181 rfl rfl
theorem qw2_183 : Cond.laysFinal RX3 RX3 "lots" "I" ∈ Tw := tw2 183 rfl rfl
theorem qw2_185 : Cond.laysFinal RX3 RX3 "paysFixed" "Z" ∈ Tw := tw2 185 rfl rfl
theorem qw2_187 : Cond.laysFinal RX3 RX3 "fixed" "I" ∈ Tw := tw2 187 rfl rfl
theorem qw2_189 : Cond.laysFinal RX3 RX3 "first" "I" ∈ Tw := tw2 189 rfl rfl
theorem qw2_191 : Cond.laysFinal RX3 RX3 "length" "I" ∈ Tw := tw2 191 rfl rfl
theorem qw2_193 : Cond.laysFinal RX3 RX3 "periods" "I" ∈ Tw := tw2 193 rfl rfl
theorem qw2_195 : Cond.lays RX3 RX3 "spread" "I" ∈ Tw := tw2 195 rfl rfl
theorem qw2_197 : Cond.lays RX3 RX3 "dayCount" "I" ∈ Tw := tw2 197 rfl rfl
theorem qw2_199 : Cond.lays RX3 RX3 "compounding" "I" ∈ Tw := tw2 199 rfl rfl
theorem qw2_201 : Cond.laysFinal RX3 RX3 "breaks" "LResetline$Diary;" ∈ Tw := tw2 201 rfl rfl
theorem qw2_203 : Cond.laysFinal RX3 RX3 "handovers" "LResetline$Diary;" ∈ Tw := tw2 203 rfl rfl
theorem qw2_205 : Cond.laysFinal RX3 RX3 "bounds" "[I" ∈ Tw := tw2 205 rfl rfl
theorem qw2_208 : Cond.arrayClass FieldType.int ∈ Tw := tw2 208 rfl rfl
theorem qw2_209 : Cond.methodLink RX4 99 yJx4a65c_add_9ea2d ∈ Tw := tw2 209 rfl rfl
theorem qw2_210 : Cond.methodLink RL 114 yL_setTerms ∈ Tw := tw2 210 rfl rfl
theorem qw2_211 : Cond.static yL_setTerms ∈ Tw := tw2 211 rfl rfl
theorem qw2_212 : Cond.codeWith yL_setTerms cL_setTerms 6 (some FieldType.int) [(0, 9, 12, 13), (0, 9, 16, 15), (0, 9, 20, 17)] ∈ Tw := tw2 212 rfl rfl
theorem qw2_213 : Cond.methodLink RL 37 yX4_setTerms ∈ Tw := tw2 213 rfl rfl
theorem qw2_214 : Cond.instanceMethod yX4_setTerms ∈ Tw := tw2 214 rfl rfl
theorem qw2_215 : Cond.selects RX4 yX4_setTerms yX4_setTerms ∈ Tw := tw2 215 rfl rfl
theorem qw2_216 : Cond.code yX4_setTerms cX4_setTerms 6 (none : Option FieldType) ∈ Tw := tw2 216 rfl rfl
theorem qw2_217 : Cond.methodLink RX4 102 yX4_swapAt ∈ Tw := tw2 217 rfl rfl
theorem qw2_219 : Cond.instanceMethod yX4_swapAt ∈ Tw := tw2 219 rfl rfl
theorem qw2_220 : Cond.code yX4_swapAt cX4_swapAt 2 (some (FieldType.object RX3)) ∈ Tw := tw2 220 rfl rfl
theorem qw2_223 : Cond.methodLink RL 118 yL_breakPart ∈ Tw := tw2 223 rfl rfl
theorem qw2_224 : Cond.static yL_breakPart ∈ Tw := tw2 224 rfl rfl
theorem qw2_225 : Cond.codeWith yL_breakPart cL_breakPart 6 (some FieldType.int) [(0, 12, 15, 13), (0, 12, 19, 15), (0, 12, 23, 17)] ∈ Tw := tw2 225 rfl rfl
theorem qw2_226 : Cond.methodLink RL 41 yX4_breakPart ∈ Tw := tw2 226 rfl rfl
theorem qw2_227 : Cond.instanceMethod yX4_breakPart ∈ Tw := tw2 227 rfl rfl
theorem qw2_228 : Cond.selects RX4 yX4_breakPart yX4_breakPart ∈ Tw := tw2 228 rfl rfl
theorem qw2_229 : Cond.code yX4_breakPart cX4_breakPart 5 (some FieldType.int) ∈ Tw := tw2 229 rfl rfl
theorem qw2_230 : Cond.methodLink RX4 121 yX3_restOfLots ∈ Tw := tw2 230 rfl rfl
theorem qw2_231 : Cond.instanceMethod yX3_restOfLots ∈ Tw := tw2 231 rfl rfl
theorem qw2_232 : Cond.selects RX3 yX3_restOfLots yX3_restOfLots ∈ Tw := tw2 232 rfl rfl
theorem qw2_233 : Cond.code yX3_restOfLots cX3_restOfLots 1 (some FieldType.int) ∈ Tw := tw2 233 rfl rfl
theorem qw2_234 : Cond.methodLink RX3 66 yX1_sumUntil ∈ Tw := tw2 234 rfl rfl
theorem qw2_235 : Cond.instanceMethod yX1_sumUntil ∈ Tw := tw2 235 rfl rfl
theorem qw2_236 : Cond.selects RX1 yX1_sumUntil yX1_sumUntil ∈ Tw := tw2 236 rfl rfl
theorem qw2_237 : Cond.code yX1_sumUntil cX1_sumUntil 5 (some FieldType.int) ∈ Tw := tw2 237 rfl rfl
theorem qw2_239 : Cond.methodLink RL 122 yL_handOver ∈ Tw := tw2 239 rfl rfl
theorem qw3_0 : Cond.static yL_handOver ∈ Tw := tw3 0 rfl rfl
theorem qw3_1 : Cond.codeWith yL_handOver cL_handOver 6 (some FieldType.int) [(0, 12, 15, 13), (0, 12, 19, 15), (0, 12, 23, 17)] ∈ Tw := tw3 1 rfl rfl
theorem qw3_2 : Cond.methodLink RL 45 yX4_handOver ∈ Tw := tw3 2 rfl rfl
theorem qw3_3 : Cond.instanceMethod yX4_handOver ∈ Tw := tw3 3 rfl rfl
theorem qw3_4 : Cond.selects RX4 yX4_handOver yX4_handOver ∈ Tw := tw3 4 rfl rfl
theorem qw3_5 : Cond.code yX4_handOver cX4_handOver 6 (some FieldType.int) ∈ Tw := tw3 5 rfl rfl
theorem qw3_7 : Cond.methodLink RX4 131 yX3_holderOn ∈ Tw := tw3 7 rfl rfl
theorem qw3_8 : Cond.instanceMethod yX3_holderOn ∈ Tw := tw3 8 rfl rfl
theorem qw3_9 : Cond.selects RX3 yX3_holderOn yX3_holderOn ∈ Tw := tw3 9 rfl rfl
theorem qw3_10 : Cond.code yX3_holderOn cX3_holderOn 2 (some FieldType.int) ∈ Tw := tw3 10 rfl rfl
theorem qw3_11 : Cond.methodLink RX3 69 yX1_latestValue ∈ Tw := tw3 11 rfl rfl
theorem qw3_12 : Cond.methodLink RL 125 yL_press ∈ Tw := tw3 12 rfl rfl
theorem qw3_13 : Cond.static yL_press ∈ Tw := tw3 13 rfl rfl
theorem qw3_14 : Cond.codeWith yL_press cL_press 4 (some FieldType.int) [(0, 9, 12, 15)] ∈ Tw := tw3 14 rfl rfl
theorem qw3_15 : Cond.methodLink RL 48 yX4_press ∈ Tw := tw3 15 rfl rfl
theorem qw3_16 : Cond.instanceMethod yX4_press ∈ Tw := tw3 16 rfl rfl
theorem qw3_17 : Cond.selects RX4 yX4_press yX4_press ∈ Tw := tw3 17 rfl rfl
theorem qw3_18 : Cond.code yX4_press cX4_press 5 (some FieldType.int) ∈ Tw := tw3 18 rfl rfl
theorem qw3_19 : Cond.methodLink RX4 138 yX4_pressPair ∈ Tw := tw3 19 rfl rfl
theorem qw3_20 : Cond.static yX4_pressPair ∈ Tw := tw3 20 rfl rfl
theorem qw3_21 : Cond.code yX4_pressPair cX4_pressPair 4 (some FieldType.int) ∈ Tw := tw3 21 rfl rfl
theorem qw3_22 : Cond.methodLink RX4 195 yX3_fits ∈ Tw := tw3 22 rfl rfl
theorem qw3_23 : Cond.instanceMethod yX3_fits ∈ Tw := tw3 23 rfl rfl
theorem qw3_24 : Cond.selects RX3 yX3_fits yX3_fits ∈ Tw := tw3 24 rfl rfl
theorem qw3_25 : Cond.code yX3_fits cX3_fits 2 (some FieldType.boolean) ∈ Tw := tw3 25 rfl rfl
theorem qw3_26 : Cond.methodLink RX4 199 yX3_isOfSamePartyFrom ∈ Tw := tw3 26 rfl rfl
theorem qw3_27 : Cond.instanceMethod yX3_isOfSamePartyFrom ∈ Tw := tw3 27 rfl rfl
theorem qw3_28 : Cond.selects RX3 yX3_isOfSamePartyFrom yX3_isOfSamePartyFrom ∈ Tw := tw3 28 rfl rfl
theorem qw3_29 : Cond.code yX3_isOfSamePartyFrom cX3_isOfSamePartyFrom 6 (some FieldType.boolean) ∈ Tw := tw3 29 rfl rfl
theorem qw3_30 : Cond.methodLink RX3 63 yX3_startOf ∈ Tw := tw3 30 rfl rfl
theorem qw3_31 : Cond.instanceMethod yX3_startOf ∈ Tw := tw3 31 rfl rfl
theorem qw3_32 : Cond.selects RX3 yX3_startOf yX3_startOf ∈ Tw := tw3 32 rfl rfl
theorem qw3_33 : Cond.code yX3_startOf cX3_startOf 2 (some FieldType.int) ∈ Tw := tw3 33 rfl rfl
theorem qw3_34 : Cond.methodLink RX3 95 yX3_endOf ∈ Tw := tw3 34 rfl rfl
theorem qw3_35 : Cond.instanceMethod yX3_endOf ∈ Tw := tw3 35 rfl rfl
theorem qw3_36 : Cond.selects RX3 yX3_endOf yX3_endOf ∈ Tw := tw3 36 rfl rfl
theorem qw3_37 : Cond.code yX3_endOf cX3_endOf 2 (some FieldType.int) ∈ Tw := tw3 37 rfl rfl
theorem qw3_38 : Cond.methodLink RX3 98 yX3_holderOn ∈ Tw := tw3 38 rfl rfl
theorem qw3_39 : Cond.methodLink RX4 181 yJ9_min_7cf53 ∈ Tw := tw3 39 rfl rfl
theorem qw3_40 : Cond.methodLink RL 132 yL_start ∈ Tw := tw3 40 rfl rfl
theorem qw3_41 : Cond.static yL_start ∈ Tw := tw3 41 rfl rfl
theorem qw3_42 : Cond.codeWith yL_start cL_start 5 (some FieldType.int) [(0, 10, 13, 13)] ∈ Tw := tw3 42 rfl rfl
theorem qw3_43 : Cond.methodLink RL 51 yX4_start ∈ Tw := tw3 43 rfl rfl
theorem qw3_44 : Cond.instanceMethod yX4_start ∈ Tw := tw3 44 rfl rfl
theorem qw3_45 : Cond.selects RX4 yX4_start yX4_start ∈ Tw := tw3 45 rfl rfl
theorem qw3_46 : Cond.code yX4_start cX4_start 3 (some FieldType.int) ∈ Tw := tw3 46 rfl rfl
theorem qw3_47 : Cond.methodLink RX4 142 yX4_swapWithPeriod ∈ Tw := tw3 47 rfl rfl
theorem qw3_49 : Cond.instanceMethod yX4_swapWithPeriod ∈ Tw := tw3 49 rfl rfl
theorem qw3_50 : Cond.code yX4_swapWithPeriod cX4_swapWithPeriod 4 (some (FieldType.object RX3)) ∈ Tw := tw3 50 rfl rfl
theorem qw3_52 : Cond.methodLink RX4 146 yX3_startOf ∈ Tw := tw3 52 rfl rfl
theorem qw3_53 : Cond.methodLink RL 135 yL_end ∈ Tw := tw3 53 rfl rfl
theorem qw3_54 : Cond.static yL_end ∈ Tw := tw3 54 rfl rfl
theorem qw3_55 : Cond.codeWith yL_end cL_end 5 (some FieldType.int) [(0, 10, 13, 13)] ∈ Tw := tw3 55 rfl rfl
theorem qw3_56 : Cond.methodLink RL 54 yX4_end ∈ Tw := tw3 56 rfl rfl
theorem qw3_57 : Cond.instanceMethod yX4_end ∈ Tw := tw3 57 rfl rfl
theorem qw3_58 : Cond.selects RX4 yX4_end yX4_end ∈ Tw := tw3 58 rfl rfl
theorem qw3_59 : Cond.code yX4_end cX4_end 3 (some FieldType.int) ∈ Tw := tw3 59 rfl rfl
theorem qw3_60 : Cond.methodLink RX4 149 yX3_endOf ∈ Tw := tw3 60 rfl rfl
theorem qw3_61 : Cond.methodLink RL 138 yL_lots ∈ Tw := tw3 61 rfl rfl
theorem qw3_62 : Cond.static yL_lots ∈ Tw := tw3 62 rfl rfl
theorem qw3_63 : Cond.codeWith yL_lots cL_lots 5 (some FieldType.int) [(0, 10, 13, 13)] ∈ Tw := tw3 63 rfl rfl
theorem qw3_64 : Cond.methodLink RL 57 yX4_lots ∈ Tw := tw3 64 rfl rfl
theorem qw3_65 : Cond.instanceMethod yX4_lots ∈ Tw := tw3 65 rfl rfl
theorem qw3_66 : Cond.selects RX4 yX4_lots yX4_lots ∈ Tw := tw3 66 rfl rfl
theorem qw3_67 : Cond.code yX4_lots cX4_lots 3 (some FieldType.int) ∈ Tw := tw3 67 rfl rfl
theorem qw3_68 : Cond.methodLink RX4 152 yX3_lotsOf ∈ Tw := tw3 68 rfl rfl
theorem qw3_69 : Cond.instanceMethod yX3_lotsOf ∈ Tw := tw3 69 rfl rfl
theorem qw3_70 : Cond.selects RX3 yX3_lotsOf yX3_lotsOf ∈ Tw := tw3 70 rfl rfl
theorem qw3_71 : Cond.code yX3_lotsOf cX3_lotsOf 2 (some FieldType.int) ∈ Tw := tw3 71 rfl rfl
theorem qw3_72 : Cond.methodLink RL 141 yL_floating ∈ Tw := tw3 72 rfl rfl
theorem qw3_73 : Cond.static yL_floating ∈ Tw := tw3 73 rfl rfl
theorem qw3_74 : Cond.codeWith yL_floating cL_floating 5 (some FieldType.int) [(0, 9, 12, 13)] ∈ Tw := tw3 74 rfl rfl
theorem qw3_75 : Cond.methodLink RL 60 yX4_floating ∈ Tw := tw3 75 rfl rfl
theorem qw3_76 : Cond.instanceMethod yX4_floating ∈ Tw := tw3 76 rfl rfl
theorem qw3_77 : Cond.selects RX4 yX4_floating yX4_floating ∈ Tw := tw3 77 rfl rfl
theorem qw3_78 : Cond.code yX4_floating cX4_floating 3 (some FieldType.long) ∈ Tw := tw3 78 rfl rfl
theorem qw3_79 : Cond.methodLink RX4 155 yX3_floatingOf ∈ Tw := tw3 79 rfl rfl
theorem qw3_80 : Cond.instanceMethod yX3_floatingOf ∈ Tw := tw3 80 rfl rfl
theorem qw3_81 : Cond.selects RX3 yX3_floatingOf yX3_floatingOf ∈ Tw := tw3 81 rfl rfl
theorem qw3_82 : Cond.code yX3_floatingOf cX3_floatingOf 12 (some FieldType.long) ∈ Tw := tw3 82 rfl rfl
theorem qw3_83 : Cond.methodLink RX3 73 yX3_rateOf ∈ Tw := tw3 83 rfl rfl
theorem qw3_85 : Cond.instanceMethod yX3_rateOf ∈ Tw := tw3 85 rfl rfl
theorem qw3_86 : Cond.code yX3_rateOf cX3_rateOf 3 (some FieldType.long) ∈ Tw := tw3 86 rfl rfl
theorem qw3_87 : Cond.methodLink RX3 77 yX3_daysOf ∈ Tw := tw3 87 rfl rfl
theorem qw3_89 : Cond.instanceMethod yX3_daysOf ∈ Tw := tw3 89 rfl rfl
theorem qw3_90 : Cond.code yX3_daysOf cX3_daysOf 2 (some FieldType.long) ∈ Tw := tw3 90 rfl rfl
theorem qw3_91 : Cond.constantLong RX3 81 (3600000 : Int64) ∈ Tw := tw3 91 rfl rfl
theorem qw3_92 : Cond.methodLink RX3 83 yJ9_floorDiv_f86c9 ∈ Tw := tw3 92 rfl rfl
theorem qw3_93 : Cond.static yJ9_floorDiv_f86c9 ∈ Tw := tw3 93 rfl rfl
theorem qw3_94 : Cond.code yJ9_floorDiv_f86c9 cJ9_floorDiv_f86c9 6 (some FieldType.long) ∈ Tw := tw3 94 rfl rfl
theorem qw3_95 : Cond.methodLink RL 144 yL_flow ∈ Tw := tw3 95 rfl rfl
theorem qw3_96 : Cond.static yL_flow ∈ Tw := tw3 96 rfl rfl
theorem qw3_97 : Cond.codeWith yL_flow cL_flow 5 (some FieldType.int) [(0, 9, 12, 13)] ∈ Tw := tw3 97 rfl rfl
theorem qw3_98 : Cond.methodLink RL 64 yX4_flow ∈ Tw := tw3 98 rfl rfl
theorem qw3_99 : Cond.instanceMethod yX4_flow ∈ Tw := tw3 99 rfl rfl
theorem qw3_100 : Cond.selects RX4 yX4_flow yX4_flow ∈ Tw := tw3 100 rfl rfl
theorem qw3_101 : Cond.code yX4_flow cX4_flow 3 (some FieldType.long) ∈ Tw := tw3 101 rfl rfl
theorem qw3_102 : Cond.methodLink RX4 159 yX3_flowOf ∈ Tw := tw3 102 rfl rfl
theorem qw3_103 : Cond.instanceMethod yX3_flowOf ∈ Tw := tw3 103 rfl rfl
theorem qw3_104 : Cond.selects RX3 yX3_flowOf yX3_flowOf ∈ Tw := tw3 104 rfl rfl
theorem qw3_105 : Cond.code yX3_flowOf cX3_flowOf 5 (some FieldType.long) ∈ Tw := tw3 105 rfl rfl
theorem qw3_106 : Cond.methodLink RX3 89 yX3_floatingOf ∈ Tw := tw3 106 rfl rfl
theorem qw3_107 : Cond.methodLink RX3 92 yX3_lotsOf ∈ Tw := tw3 107 rfl rfl
theorem qw3_108 : Cond.methodLink RL 147 yL_partyOn ∈ Tw := tw3 108 rfl rfl
theorem qw3_109 : Cond.static yL_partyOn ∈ Tw := tw3 109 rfl rfl
theorem qw3_110 : Cond.codeWith yL_partyOn cL_partyOn 5 (some FieldType.int) [(0, 10, 13, 13), (0, 10, 17, 15)] ∈ Tw := tw3 110 rfl rfl
theorem qw3_111 : Cond.methodLink RL 67 yX4_partyOn ∈ Tw := tw3 111 rfl rfl
theorem qw3_112 : Cond.instanceMethod yX4_partyOn ∈ Tw := tw3 112 rfl rfl
theorem qw3_113 : Cond.selects RX4 yX4_partyOn yX4_partyOn ∈ Tw := tw3 113 rfl rfl
theorem qw3_114 : Cond.code yX4_partyOn cX4_partyOn 4 (some FieldType.int) ∈ Tw := tw3 114 rfl rfl
theorem qw3_115 : Cond.methodLink RL 150 yL_cash ∈ Tw := tw3 115 rfl rfl
theorem qw3_116 : Cond.static yL_cash ∈ Tw := tw3 116 rfl rfl
theorem qw3_117 : Cond.codeWith yL_cash cL_cash 5 (some FieldType.int) [(0, 9, 12, 13), (0, 9, 16, 15)] ∈ Tw := tw3 117 rfl rfl
theorem qw3_118 : Cond.methodLink RL 70 yX4_cash ∈ Tw := tw3 118 rfl rfl
theorem qw3_119 : Cond.instanceMethod yX4_cash ∈ Tw := tw3 119 rfl rfl
theorem qw3_120 : Cond.selects RX4 yX4_cash yX4_cash ∈ Tw := tw3 120 rfl rfl
theorem qw3_121 : Cond.code yX4_cash cX4_cash 3 (some FieldType.long) ∈ Tw := tw3 121 rfl rfl
theorem qw3_122 : Cond.methodLink RX4 162 yX4_cashOnDay ∈ Tw := tw3 122 rfl rfl
theorem qw3_124 : Cond.instanceMethod yX4_cashOnDay ∈ Tw := tw3 124 rfl rfl
theorem qw3_125 : Cond.code yX4_cashOnDay cX4_cashOnDay 6 (some FieldType.long) ∈ Tw := tw3 125 rfl rfl
theorem qw3_126 : Cond.methodLink RX4 169 yX3_cashOf ∈ Tw := tw3 126 rfl rfl
theorem qw3_127 : Cond.instanceMethod yX3_cashOf ∈ Tw := tw3 127 rfl rfl
theorem qw3_128 : Cond.selects RX3 yX3_cashOf yX3_cashOf ∈ Tw := tw3 128 rfl rfl
theorem qw3_129 : Cond.code yX3_cashOf cX3_cashOf 9 (some FieldType.long) ∈ Tw := tw3 129 rfl rfl
theorem qw3_130 : Cond.methodLink RX3 101 yX3_flowOf ∈ Tw := tw3 130 rfl rfl
theorem qw3_131 : Cond.methodLink RL 153 yL_cashOfDays ∈ Tw := tw3 131 rfl rfl
theorem qw3_132 : Cond.static yL_cashOfDays ∈ Tw := tw3 132 rfl rfl
theorem qw3_133 : Cond.codeWith yL_cashOfDays cL_cashOfDays 6 (some FieldType.int) [(0, 11, 14, 13), (0, 11, 18, 15)] ∈ Tw := tw3 133 rfl rfl
theorem qw3_134 : Cond.methodLink RL 73 yX4_cashOfDays ∈ Tw := tw3 134 rfl rfl
theorem qw3_135 : Cond.instanceMethod yX4_cashOfDays ∈ Tw := tw3 135 rfl rfl
theorem qw3_136 : Cond.selects RX4 yX4_cashOfDays yX4_cashOfDays ∈ Tw := tw3 136 rfl rfl
theorem qw3_137 : Cond.code yX4_cashOfDays cX4_cashOfDays 7 (some FieldType.long) ∈ Tw := tw3 137 rfl rfl
theorem qw3_138 : Cond.methodLink RX4 166 yX4_checkSpan ∈ Tw := tw3 138 rfl rfl
theorem qw3_139 : Cond.static yX4_checkSpan ∈ Tw := tw3 139 rfl rfl
theorem qw3_140 : Cond.code yX4_checkSpan cX4_checkSpan 2 (none : Option FieldType) ∈ Tw := tw3 140 rfl rfl
theorem qw3_141 : Cond.methodLink RL 156 yL_cashByTrades ∈ Tw := tw3 141 rfl rfl
theorem qw3_142 : Cond.static yL_cashByTrades ∈ Tw := tw3 142 rfl rfl
theorem qw3_143 : Cond.codeWith yL_cashByTrades cL_cashByTrades 6 (some FieldType.int) [(0, 11, 14, 13), (0, 11, 18, 15)] ∈ Tw := tw3 143 rfl rfl
theorem qw3_144 : Cond.methodLink RL 77 yX4_cashByTrades ∈ Tw := tw3 144 rfl rfl
theorem qw3_145 : Cond.instanceMethod yX4_cashByTrades ∈ Tw := tw3 145 rfl rfl
theorem qw3_146 : Cond.selects RX4 yX4_cashByTrades yX4_cashByTrades ∈ Tw := tw3 146 rfl rfl
theorem qw3_147 : Cond.code yX4_cashByTrades cX4_cashByTrades 7 (some FieldType.long) ∈ Tw := tw3 147 rfl rfl
theorem qw3_148 : Cond.methodLink RL 159 yL_nextFlow ∈ Tw := tw3 148 rfl rfl
theorem qw3_149 : Cond.static yL_nextFlow ∈ Tw := tw3 149 rfl rfl
theorem qw3_150 : Cond.codeWith yL_nextFlow cL_nextFlow 5 (some FieldType.int) [(0, 10, 13, 13), (0, 10, 17, 15)] ∈ Tw := tw3 150 rfl rfl
theorem qw3_151 : Cond.methodLink RL 80 yX4_nextFlow ∈ Tw := tw3 151 rfl rfl
theorem qw3_152 : Cond.instanceMethod yX4_nextFlow ∈ Tw := tw3 152 rfl rfl
theorem qw3_153 : Cond.selects RX4 yX4_nextFlow yX4_nextFlow ∈ Tw := tw3 153 rfl rfl
theorem qw3_154 : Cond.code yX4_nextFlow cX4_nextFlow 6 (some FieldType.int) ∈ Tw := tw3 154 rfl rfl
theorem qw3_155 : Cond.methodLink RX4 173 yX3_nextPayDay ∈ Tw := tw3 155 rfl rfl
theorem qw3_156 : Cond.instanceMethod yX3_nextPayDay ∈ Tw := tw3 156 rfl rfl
theorem qw3_157 : Cond.selects RX3 yX3_nextPayDay yX3_nextPayDay ∈ Tw := tw3 157 rfl rfl
theorem qw3_158 : Cond.code yX3_nextPayDay cX3_nextPayDay 5 (some FieldType.int) ∈ Tw := tw3 158 rfl rfl
theorem qw3_159 : Cond.classLink RL 84 RX5 ∈ Tw := tw3 159 rfl rfl
theorem qw3_160 : Cond.instantiable RX5 24 ∈ Tw := tw3 160 rfl rfl
theorem qw3_161 : Cond.methodLink RL 86 yX5_init ∈ Tw := tw3 161 rfl rfl
theorem qw3_162 : Cond.instanceMethod yX5_init ∈ Tw := tw3 162 rfl rfl
theorem qw3_163 : Cond.code yX5_init cX5_init 1 (none : Option FieldType) ∈ Tw := tw3 163 rfl rfl
theorem qw3_164 : Cond.methodLink RX5 1 ⟨"java/lang/Object", "<init>", "()V"⟩ ∈ Tw := tw3 164 rfl rfl
theorem qw3_165 : Cond.fieldLink RX5 71 RX5 "thrown" "I" ∈ Tw := tw3 165 rfl rfl
theorem qw3_166 : Cond.fieldLink RX5 7 RX5 "isHoliday" "[Z" ∈ Tw := tw3 166 rfl rfl
theorem qw3_167 : Cond.fieldLink RX5 13 RX5 "holidays" "[I" ∈ Tw := tw3 167 rfl rfl
theorem qw3_168 : Cond.fieldLink RX5 17 RX5 "isFixed" "[Z" ∈ Tw := tw3 168 rfl rfl
theorem qw3_169 : Cond.fieldLink RX5 20 RX5 "rates" "[I" ∈ Tw := tw3 169 rfl rfl
theorem qw3_170 : Cond.fieldLink RX5 99 RX5 "fixings" "I" ∈ Tw := tw3 170 rfl rfl
theorem qw3_171 : Cond.fieldLink RX5 79 RX5 "tradeMany" "I" ∈ Tw := tw3 171 rfl rfl
theorem qw3_172 : Cond.fieldLink RX5 23 RX5 "parties" "[I" ∈ Tw := tw3 172 rfl rfl
theorem qw3_173 : Cond.fieldLink RX5 26 RX5 "sizes" "[I" ∈ Tw := tw3 173 rfl rfl
theorem qw3_174 : Cond.fieldLink RX5 29 RX5 "pays" "[Z" ∈ Tw := tw3 174 rfl rfl
theorem qw3_175 : Cond.fieldLink RX5 32 RX5 "fixed" "[I" ∈ Tw := tw3 175 rfl rfl
theorem qw3_176 : Cond.fieldLink RX5 35 RX5 "firsts" "[I" ∈ Tw := tw3 176 rfl rfl
theorem qw3_177 : Cond.fieldLink RX5 38 RX5 "lengths" "[I" ∈ Tw := tw3 177 rfl rfl
theorem qw3_178 : Cond.fieldLink RX5 41 RX5 "periods" "[I" ∈ Tw := tw3 178 rfl rfl
theorem qw3_179 : Cond.fieldLink RX5 44 RX5 "spreads" "[I" ∈ Tw := tw3 179 rfl rfl
theorem qw3_180 : Cond.fieldLink RX5 47 RX5 "dayCounts" "[I" ∈ Tw := tw3 180 rfl rfl
theorem qw3_181 : Cond.fieldLink RX5 50 RX5 "ways" "[I" ∈ Tw := tw3 181 rfl rfl
theorem qw3_182 : Cond.fieldLink RX5 108 RX5 "breakMany" "I" ∈ Tw := tw3 182 rfl rfl
theorem qw3_183 : Cond.fieldLink RX5 53 RX5 "breakTrades" "[I" ∈ Tw := tw3 183 rfl rfl
theorem qw3_184 : Cond.fieldLink RX5 56 RX5 "breakDays" "[I" ∈ Tw := tw3 184 rfl rfl
theorem qw3_185 : Cond.fieldLink RX5 59 RX5 "breakLots" "[I" ∈ Tw := tw3 185 rfl rfl
theorem qw3_186 : Cond.fieldLink RX5 62 RX5 "handMany" "[I" ∈ Tw := tw3 186 rfl rfl
theorem qw3_187 : Cond.fieldLink RX5 65 RX5 "handDays" "[I" ∈ Tw := tw3 187 rfl rfl
theorem qw3_188 : Cond.fieldLink RX5 68 RX5 "hands" "[I" ∈ Tw := tw3 188 rfl rfl
theorem qw3_189 : Cond.lays RX5 RX5 "thrown" "I" ∈ Tw := tw3 189 rfl rfl
theorem qw3_191 : Cond.laysFinal RX5 RX5 "isHoliday" "[Z" ∈ Tw := tw3 191 rfl rfl
theorem qw3_193 : Cond.laysFinal RX5 RX5 "holidays" "[I" ∈ Tw := tw3 193 rfl rfl
theorem qw3_195 : Cond.laysFinal RX5 RX5 "isFixed" "[Z" ∈ Tw := tw3 195 rfl rfl
theorem qw3_197 : Cond.laysFinal RX5 RX5 "rates" "[I" ∈ Tw := tw3 197 rfl rfl
theorem qw3_199 : Cond.lays RX5 RX5 "fixings" "I" ∈ Tw := tw3 199 rfl rfl
theorem qw3_201 : Cond.lays RX5 RX5 "tradeMany" "I" ∈ Tw := tw3 201 rfl rfl
theorem qw3_203 : Cond.laysFinal RX5 RX5 "parties" "[I" ∈ Tw := tw3 203 rfl rfl
theorem qw3_205 : Cond.laysFinal RX5 RX5 "sizes" "[I" ∈ Tw := tw3 205 rfl rfl
theorem qw3_207 : Cond.laysFinal RX5 RX5 "pays" "[Z" ∈ Tw := tw3 207 rfl rfl
theorem qw3_209 : Cond.laysFinal RX5 RX5 "fixed" "[I" ∈ Tw := tw3 209 rfl rfl
theorem qw3_211 : Cond.laysFinal RX5 RX5 "firsts" "[I" ∈ Tw := tw3 211 rfl rfl
theorem qw3_213 : Cond.laysFinal RX5 RX5 "lengths" "[I" ∈ Tw := tw3 213 rfl rfl
theorem qw3_215 : Cond.laysFinal RX5 RX5 "periods" "[I" ∈ Tw := tw3 215 rfl rfl
theorem qw3_217 : Cond.laysFinal RX5 RX5 "spreads" "[I" ∈ Tw := tw3 217 rfl rfl
theorem qw3_219 : Cond.laysFinal RX5 RX5 "dayCounts" "[I" ∈ Tw := tw3 219 rfl rfl
theorem qw3_221 : Cond.laysFinal RX5 RX5 "ways" "[I" ∈ Tw := tw3 221 rfl rfl
theorem qw3_223 : Cond.lays RX5 RX5 "breakMany" "I" ∈ Tw := tw3 223 rfl rfl
theorem qw3_225 : Cond.laysFinal RX5 RX5 "breakTrades" "[I" ∈ Tw := tw3 225 rfl rfl
theorem qw3_227 : Cond.laysFinal RX5 RX5 "breakDays" "[I" ∈ Tw := tw3 227 rfl rfl
theorem qw3_229 : Cond.laysFinal RX5 RX5 "breakLots" "[I" ∈ Tw := tw3 229 rfl rfl
theorem qw3_231 : Cond.laysFinal RX5 RX5 "handMany" "[I" ∈ Tw := tw3 231 rfl rfl
theorem qw3_233 : Cond.laysFinal RX5 RX5 "handDays" "[I" ∈ Tw := tw3 233 rfl rfl
theorem qw3_235 : Cond.laysFinal RX5 RX5 "hands" "[I" ∈ Tw := tw3 235 rfl rfl
theorem qw3_238 : Cond.arrayClass FieldType.boolean ∈ Tw := tw3 238 rfl rfl
theorem qw3_239 : Cond.methodLink RL 93 yX5_thrown ∈ Tw := tw3 239 rfl rfl
theorem qw4_0 : Cond.instanceMethod yX5_thrown ∈ Tw := tw4 0 rfl rfl
theorem qw4_1 : Cond.selects RX5 yX5_thrown yX5_thrown ∈ Tw := tw4 1 rfl rfl
theorem qw4_2 : Cond.code yX5_thrown cX5_thrown 1 (some FieldType.int) ∈ Tw := tw4 2 rfl rfl
theorem qw4_3 : Cond.methodLink RL 92 yX5_holiday ∈ Tw := tw4 3 rfl rfl
theorem qw4_4 : Cond.instanceMethod yX5_holiday ∈ Tw := tw4 4 rfl rfl
theorem qw4_5 : Cond.selects RX5 yX5_holiday yX5_holiday ∈ Tw := tw4 5 rfl rfl
theorem qw4_6 : Cond.code yX5_holiday cX5_holiday 3 (some FieldType.int) ∈ Tw := tw4 6 rfl rfl
theorem qw4_7 : Cond.methodLink RX5 75 yX5_in ∈ Tw := tw4 7 rfl rfl
theorem qw4_8 : Cond.static yX5_in ∈ Tw := tw4 8 rfl rfl
theorem qw4_9 : Cond.code yX5_in cX5_in 3 (some FieldType.boolean) ∈ Tw := tw4 9 rfl rfl
theorem qw4_10 : Cond.methodLink RX5 89 yX5_isDay ∈ Tw := tw4 10 rfl rfl
theorem qw4_11 : Cond.static yX5_isDay ∈ Tw := tw4 11 rfl rfl
theorem qw4_12 : Cond.code yX5_isDay cX5_isDay 1 (some FieldType.boolean) ∈ Tw := tw4 12 rfl rfl
theorem qw4_13 : Cond.methodLink RL 100 yX5_isOpen ∈ Tw := tw4 13 rfl rfl
theorem qw4_14 : Cond.instanceMethod yX5_isOpen ∈ Tw := tw4 14 rfl rfl
theorem qw4_15 : Cond.selects RX5 yX5_isOpen yX5_isOpen ∈ Tw := tw4 15 rfl rfl
theorem qw4_16 : Cond.code yX5_isOpen cX5_isOpen 2 (some FieldType.boolean) ∈ Tw := tw4 16 rfl rfl
theorem qw4_17 : Cond.methodLink RX5 86 yX5_opens ∈ Tw := tw4 17 rfl rfl
theorem qw4_19 : Cond.instanceMethod yX5_opens ∈ Tw := tw4 19 rfl rfl
theorem qw4_20 : Cond.code yX5_opens cX5_opens 2 (some FieldType.boolean) ∈ Tw := tw4 20 rfl rfl
theorem qw4_21 : Cond.methodLink RL 103 yX5_roll ∈ Tw := tw4 21 rfl rfl
theorem qw4_22 : Cond.instanceMethod yX5_roll ∈ Tw := tw4 22 rfl rfl
theorem qw4_23 : Cond.selects RX5 yX5_roll yX5_roll ∈ Tw := tw4 23 rfl rfl
theorem qw4_24 : Cond.code yX5_roll cX5_roll 2 (some FieldType.int) ∈ Tw := tw4 24 rfl rfl
theorem qw4_25 : Cond.methodLink RX5 92 yX5_rolled ∈ Tw := tw4 25 rfl rfl
theorem qw4_27 : Cond.instanceMethod yX5_rolled ∈ Tw := tw4 27 rfl rfl
theorem qw4_28 : Cond.code yX5_rolled cX5_rolled 3 (some FieldType.int) ∈ Tw := tw4 28 rfl rfl
theorem qw4_29 : Cond.methodLink RX5 96 yX5_fails ∈ Tw := tw4 29 rfl rfl
theorem qw4_31 : Cond.instanceMethod yX5_fails ∈ Tw := tw4 31 rfl rfl
theorem qw4_32 : Cond.code yX5_fails cX5_fails 2 (some FieldType.int) ∈ Tw := tw4 32 rfl rfl
theorem qw4_33 : Cond.methodLink RL 106 yX5_fix ∈ Tw := tw4 33 rfl rfl
theorem qw4_34 : Cond.instanceMethod yX5_fix ∈ Tw := tw4 34 rfl rfl
theorem qw4_35 : Cond.selects RX5 yX5_fix yX5_fix ∈ Tw := tw4 35 rfl rfl
theorem qw4_36 : Cond.code yX5_fix cX5_fix 3 (some FieldType.int) ∈ Tw := tw4 36 rfl rfl
theorem qw4_37 : Cond.methodLink RL 109 yX5_rateFor ∈ Tw := tw4 37 rfl rfl
theorem qw4_38 : Cond.instanceMethod yX5_rateFor ∈ Tw := tw4 38 rfl rfl
theorem qw4_39 : Cond.selects RX5 yX5_rateFor yX5_rateFor ∈ Tw := tw4 39 rfl rfl
theorem qw4_40 : Cond.code yX5_rateFor cX5_rateFor 2 (some FieldType.int) ∈ Tw := tw4 40 rfl rfl
theorem qw4_41 : Cond.methodLink RX5 102 yX5_rate ∈ Tw := tw4 41 rfl rfl
theorem qw4_43 : Cond.instanceMethod yX5_rate ∈ Tw := tw4 43 rfl rfl
theorem qw4_44 : Cond.code yX5_rate cX5_rate 3 (some FieldType.int) ∈ Tw := tw4 44 rfl rfl
theorem qw4_45 : Cond.methodLink RL 113 yX5_trade ∈ Tw := tw4 45 rfl rfl
theorem qw4_46 : Cond.instanceMethod yX5_trade ∈ Tw := tw4 46 rfl rfl
theorem qw4_47 : Cond.selects RX5 yX5_trade yX5_trade ∈ Tw := tw4 47 rfl rfl
theorem qw4_48 : Cond.code yX5_trade cX5_trade 9 (some FieldType.int) ∈ Tw := tw4 48 rfl rfl
theorem qw4_49 : Cond.methodLink RX5 105 yX5_isParty ∈ Tw := tw4 49 rfl rfl
theorem qw4_50 : Cond.static yX5_isParty ∈ Tw := tw4 50 rfl rfl
theorem qw4_51 : Cond.code yX5_isParty cX5_isParty 1 (some FieldType.boolean) ∈ Tw := tw4 51 rfl rfl
theorem qw4_52 : Cond.methodLink RL 117 yX5_setTerms ∈ Tw := tw4 52 rfl rfl
theorem qw4_53 : Cond.instanceMethod yX5_setTerms ∈ Tw := tw4 53 rfl rfl
theorem qw4_54 : Cond.selects RX5 yX5_setTerms yX5_setTerms ∈ Tw := tw4 54 rfl rfl
theorem qw4_55 : Cond.code yX5_setTerms cX5_setTerms 6 (none : Option FieldType) ∈ Tw := tw4 55 rfl rfl
theorem qw4_56 : Cond.methodLink RX5 82 yX5_isTrade ∈ Tw := tw4 56 rfl rfl
theorem qw4_58 : Cond.instanceMethod yX5_isTrade ∈ Tw := tw4 58 rfl rfl
theorem qw4_59 : Cond.code yX5_isTrade cX5_isTrade 2 (some FieldType.boolean) ∈ Tw := tw4 59 rfl rfl
theorem qw4_60 : Cond.methodLink RX5 115 yX5_countBreaks ∈ Tw := tw4 60 rfl rfl
theorem qw4_62 : Cond.instanceMethod yX5_countBreaks ∈ Tw := tw4 62 rfl rfl
theorem qw4_63 : Cond.code yX5_countBreaks cX5_countBreaks 4 (some FieldType.int) ∈ Tw := tw4 63 rfl rfl
theorem qw4_64 : Cond.methodLink RL 121 yX5_breakPart ∈ Tw := tw4 64 rfl rfl
theorem qw4_65 : Cond.instanceMethod yX5_breakPart ∈ Tw := tw4 65 rfl rfl
theorem qw4_66 : Cond.selects RX5 yX5_breakPart yX5_breakPart ∈ Tw := tw4 66 rfl rfl
theorem qw4_67 : Cond.code yX5_breakPart cX5_breakPart 4 (some FieldType.int) ∈ Tw := tw4 67 rfl rfl
theorem qw4_68 : Cond.methodLink RX5 118 yX5_rest ∈ Tw := tw4 68 rfl rfl
theorem qw4_70 : Cond.instanceMethod yX5_rest ∈ Tw := tw4 70 rfl rfl
theorem qw4_71 : Cond.code yX5_rest cX5_rest 2 (some FieldType.int) ∈ Tw := tw4 71 rfl rfl
theorem qw4_72 : Cond.methodLink RX5 111 yX5_broken ∈ Tw := tw4 72 rfl rfl
theorem qw4_74 : Cond.instanceMethod yX5_broken ∈ Tw := tw4 74 rfl rfl
theorem qw4_75 : Cond.code yX5_broken cX5_broken 5 (some FieldType.int) ∈ Tw := tw4 75 rfl rfl
theorem qw4_76 : Cond.methodLink RX5 121 yX5_breaks ∈ Tw := tw4 76 rfl rfl
theorem qw4_78 : Cond.instanceMethod yX5_breaks ∈ Tw := tw4 78 rfl rfl
theorem qw4_79 : Cond.code yX5_breaks cX5_breaks 4 (none : Option FieldType) ∈ Tw := tw4 79 rfl rfl
theorem qw4_80 : Cond.methodLink RL 124 yX5_handOver ∈ Tw := tw4 80 rfl rfl
theorem qw4_81 : Cond.instanceMethod yX5_handOver ∈ Tw := tw4 81 rfl rfl
theorem qw4_82 : Cond.selects RX5 yX5_handOver yX5_handOver ∈ Tw := tw4 82 rfl rfl
theorem qw4_83 : Cond.code yX5_handOver cX5_handOver 5 (some FieldType.int) ∈ Tw := tw4 83 rfl rfl
theorem qw4_84 : Cond.methodLink RX5 125 yX5_party ∈ Tw := tw4 84 rfl rfl
theorem qw4_86 : Cond.instanceMethod yX5_party ∈ Tw := tw4 86 rfl rfl
theorem qw4_87 : Cond.code yX5_party cX5_party 7 (some FieldType.int) ∈ Tw := tw4 87 rfl rfl
theorem qw4_88 : Cond.methodLink RL 127 yX5_press ∈ Tw := tw4 88 rfl rfl
theorem qw4_89 : Cond.instanceMethod yX5_press ∈ Tw := tw4 89 rfl rfl
theorem qw4_90 : Cond.selects RX5 yX5_press yX5_press ∈ Tw := tw4 90 rfl rfl
theorem qw4_91 : Cond.code yX5_press cX5_press 6 (some FieldType.int) ∈ Tw := tw4 91 rfl rfl
theorem qw4_92 : Cond.methodLink RX5 131 yX5_areLike ∈ Tw := tw4 92 rfl rfl
theorem qw4_94 : Cond.instanceMethod yX5_areLike ∈ Tw := tw4 94 rfl rfl
theorem qw4_95 : Cond.code yX5_areLike cX5_areLike 4 (some FieldType.boolean) ∈ Tw := tw4 95 rfl rfl
theorem qw4_96 : Cond.methodLink RX5 135 yX5_haveOneParty ∈ Tw := tw4 96 rfl rfl
theorem qw4_98 : Cond.instanceMethod yX5_haveOneParty ∈ Tw := tw4 98 rfl rfl
theorem qw4_99 : Cond.code yX5_haveOneParty cX5_haveOneParty 7 (some FieldType.boolean) ∈ Tw := tw4 99 rfl rfl
theorem qw4_100 : Cond.methodLink RX5 128 yX5_begins ∈ Tw := tw4 100 rfl rfl
theorem qw4_102 : Cond.instanceMethod yX5_begins ∈ Tw := tw4 102 rfl rfl
theorem qw4_103 : Cond.code yX5_begins cX5_begins 3 (some FieldType.int) ∈ Tw := tw4 103 rfl rfl
theorem qw4_104 : Cond.methodLink RL 131 yX5_trades ∈ Tw := tw4 104 rfl rfl
theorem qw4_105 : Cond.instanceMethod yX5_trades ∈ Tw := tw4 105 rfl rfl
theorem qw4_106 : Cond.selects RX5 yX5_trades yX5_trades ∈ Tw := tw4 106 rfl rfl
theorem qw4_107 : Cond.code yX5_trades cX5_trades 1 (some FieldType.int) ∈ Tw := tw4 107 rfl rfl
theorem qw4_108 : Cond.methodLink RL 134 yX5_start ∈ Tw := tw4 108 rfl rfl
theorem qw4_109 : Cond.instanceMethod yX5_start ∈ Tw := tw4 109 rfl rfl
theorem qw4_110 : Cond.selects RX5 yX5_start yX5_start ∈ Tw := tw4 110 rfl rfl
theorem qw4_111 : Cond.code yX5_start cX5_start 3 (some FieldType.int) ∈ Tw := tw4 111 rfl rfl
theorem qw4_112 : Cond.methodLink RX5 154 yX5_isPeriod ∈ Tw := tw4 112 rfl rfl
theorem qw4_114 : Cond.instanceMethod yX5_isPeriod ∈ Tw := tw4 114 rfl rfl
theorem qw4_115 : Cond.code yX5_isPeriod cX5_isPeriod 3 (some FieldType.boolean) ∈ Tw := tw4 115 rfl rfl
theorem qw4_116 : Cond.methodLink RL 137 yX5_end ∈ Tw := tw4 116 rfl rfl
theorem qw4_117 : Cond.instanceMethod yX5_end ∈ Tw := tw4 117 rfl rfl
theorem qw4_118 : Cond.selects RX5 yX5_end yX5_end ∈ Tw := tw4 118 rfl rfl
theorem qw4_119 : Cond.code yX5_end cX5_end 3 (some FieldType.int) ∈ Tw := tw4 119 rfl rfl
theorem qw4_120 : Cond.methodLink RL 140 yX5_lots ∈ Tw := tw4 120 rfl rfl
theorem qw4_121 : Cond.instanceMethod yX5_lots ∈ Tw := tw4 121 rfl rfl
theorem qw4_122 : Cond.selects RX5 yX5_lots yX5_lots ∈ Tw := tw4 122 rfl rfl
theorem qw4_123 : Cond.code yX5_lots cX5_lots 3 (some FieldType.int) ∈ Tw := tw4 123 rfl rfl
theorem qw4_124 : Cond.methodLink RX5 151 yX5_lotsOf ∈ Tw := tw4 124 rfl rfl
theorem qw4_126 : Cond.instanceMethod yX5_lotsOf ∈ Tw := tw4 126 rfl rfl
theorem qw4_127 : Cond.code yX5_lotsOf cX5_lotsOf 3 (some FieldType.int) ∈ Tw := tw4 127 rfl rfl
theorem qw4_128 : Cond.methodLink RL 143 yX5_floating ∈ Tw := tw4 128 rfl rfl
theorem qw4_129 : Cond.instanceMethod yX5_floating ∈ Tw := tw4 129 rfl rfl
theorem qw4_130 : Cond.selects RX5 yX5_floating yX5_floating ∈ Tw := tw4 130 rfl rfl
theorem qw4_131 : Cond.code yX5_floating cX5_floating 3 (some FieldType.long) ∈ Tw := tw4 131 rfl rfl
theorem qw4_132 : Cond.methodLink RX5 147 yX5_floats ∈ Tw := tw4 132 rfl rfl
theorem qw4_134 : Cond.instanceMethod yX5_floats ∈ Tw := tw4 134 rfl rfl
theorem qw4_135 : Cond.code yX5_floats cX5_floats 16 (some FieldType.long) ∈ Tw := tw4 135 rfl rfl
theorem qw4_136 : Cond.methodLink RX5 138 yX5_days ∈ Tw := tw4 136 rfl rfl
theorem qw4_138 : Cond.instanceMethod yX5_days ∈ Tw := tw4 138 rfl rfl
theorem qw4_139 : Cond.code yX5_days cX5_days 3 (some FieldType.int) ∈ Tw := tw4 139 rfl rfl
theorem qw4_140 : Cond.constantLong RX5 141 (3600000 : Int64) ∈ Tw := tw4 140 rfl rfl
theorem qw4_141 : Cond.methodLink RX5 143 yX5_floor ∈ Tw := tw4 141 rfl rfl
theorem qw4_142 : Cond.static yX5_floor ∈ Tw := tw4 142 rfl rfl
theorem qw4_143 : Cond.code yX5_floor cX5_floor 6 (some FieldType.long) ∈ Tw := tw4 143 rfl rfl
theorem qw4_144 : Cond.methodLink RL 146 yX5_flow ∈ Tw := tw4 144 rfl rfl
theorem qw4_145 : Cond.instanceMethod yX5_flow ∈ Tw := tw4 145 rfl rfl
theorem qw4_146 : Cond.selects RX5 yX5_flow yX5_flow ∈ Tw := tw4 146 rfl rfl
theorem qw4_147 : Cond.code yX5_flow cX5_flow 3 (some FieldType.long) ∈ Tw := tw4 147 rfl rfl
theorem qw4_148 : Cond.methodLink RX5 157 yX5_flowOf ∈ Tw := tw4 148 rfl rfl
theorem qw4_150 : Cond.instanceMethod yX5_flowOf ∈ Tw := tw4 150 rfl rfl
theorem qw4_151 : Cond.code yX5_flowOf cX5_flowOf 5 (some FieldType.long) ∈ Tw := tw4 151 rfl rfl
theorem qw4_152 : Cond.methodLink RL 149 yX5_partyOn ∈ Tw := tw4 152 rfl rfl
theorem qw4_153 : Cond.instanceMethod yX5_partyOn ∈ Tw := tw4 153 rfl rfl
theorem qw4_154 : Cond.selects RX5 yX5_partyOn yX5_partyOn ∈ Tw := tw4 154 rfl rfl
theorem qw4_155 : Cond.code yX5_partyOn cX5_partyOn 3 (some FieldType.int) ∈ Tw := tw4 155 rfl rfl
theorem qw4_156 : Cond.methodLink RL 152 yX5_cash ∈ Tw := tw4 156 rfl rfl
theorem qw4_157 : Cond.instanceMethod yX5_cash ∈ Tw := tw4 157 rfl rfl
theorem qw4_158 : Cond.selects RX5 yX5_cash yX5_cash ∈ Tw := tw4 158 rfl rfl
theorem qw4_159 : Cond.code yX5_cash cX5_cash 3 (some FieldType.long) ∈ Tw := tw4 159 rfl rfl
theorem qw4_160 : Cond.methodLink RX5 160 yX5_sum ∈ Tw := tw4 160 rfl rfl
theorem qw4_162 : Cond.instanceMethod yX5_sum ∈ Tw := tw4 162 rfl rfl
theorem qw4_163 : Cond.code yX5_sum cX5_sum 9 (some FieldType.long) ∈ Tw := tw4 163 rfl rfl
theorem qw4_164 : Cond.methodLink RL 155 yX5_cashOfDays ∈ Tw := tw4 164 rfl rfl
theorem qw4_165 : Cond.instanceMethod yX5_cashOfDays ∈ Tw := tw4 165 rfl rfl
theorem qw4_166 : Cond.selects RX5 yX5_cashOfDays yX5_cashOfDays ∈ Tw := tw4 166 rfl rfl
theorem qw4_167 : Cond.code yX5_cashOfDays cX5_cashOfDays 4 (some FieldType.long) ∈ Tw := tw4 167 rfl rfl
theorem qw4_168 : Cond.methodLink RX5 164 yX5_barsDays ∈ Tw := tw4 168 rfl rfl
theorem qw4_170 : Cond.instanceMethod yX5_barsDays ∈ Tw := tw4 170 rfl rfl
theorem qw4_171 : Cond.code yX5_barsDays cX5_barsDays 5 (some FieldType.int) ∈ Tw := tw4 171 rfl rfl
theorem qw4_172 : Cond.methodLink RL 158 yX5_cashByTrades ∈ Tw := tw4 172 rfl rfl
theorem qw4_173 : Cond.instanceMethod yX5_cashByTrades ∈ Tw := tw4 173 rfl rfl
theorem qw4_174 : Cond.selects RX5 yX5_cashByTrades yX5_cashByTrades ∈ Tw := tw4 174 rfl rfl
theorem qw4_175 : Cond.code yX5_cashByTrades cX5_cashByTrades 4 (some FieldType.long) ∈ Tw := tw4 175 rfl rfl
theorem qw4_176 : Cond.methodLink RL 161 yX5_nextFlow ∈ Tw := tw4 176 rfl rfl
theorem qw4_177 : Cond.instanceMethod yX5_nextFlow ∈ Tw := tw4 177 rfl rfl
theorem qw4_178 : Cond.selects RX5 yX5_nextFlow yX5_nextFlow ∈ Tw := tw4 178 rfl rfl
theorem qw4_179 : Cond.code yX5_nextFlow cX5_nextFlow 7 (some FieldType.int) ∈ Tw := tw4 179 rfl rfl
theorem qw4_180 : Cond.arrayClass FieldType.long ∈ Tw := tw4 180 rfl rfl
theorem qw4_195 : Cond.selects "[Ljava/lang/Object;" ⟨"java/lang/Object", "getClass", "()Ljava/lang/Class;"⟩ ⟨"java/lang/Object", "getClass", "()Ljava/lang/Class;"⟩ ∈ Tw := tw4 195 rfl rfl
theorem qp1 : Cond.selects yX1_entryOf.cls yX1_entryOf yX1_entryOf ∈ Tw := tw_priv (q := (yX1_entryOf, 1)) 1 rfl rfl
theorem qp2 : Cond.selects yJx4a65c_add_72be8.cls yJx4a65c_add_72be8 yJx4a65c_add_72be8 ∈ Tw := tw_priv (q := (yJx4a65c_add_72be8, 3)) 2 rfl rfl
theorem qp3 : Cond.selects yJx4a65c_grow_d5877.cls yJx4a65c_grow_d5877 yJx4a65c_grow_d5877 ∈ Tw := tw_priv (q := (yJx4a65c_grow_d5877, 3)) 3 rfl rfl
theorem qp4 : Cond.selects yJx4a65c_grow_92f84.cls yJx4a65c_grow_92f84 yJx4a65c_grow_92f84 ∈ Tw := tw_priv (q := (yJx4a65c_grow_92f84, 3)) 4 rfl rfl
theorem qp5 : Cond.selects yX4_rollAllTrades.cls yX4_rollAllTrades yX4_rollAllTrades ∈ Tw := tw_priv (q := (yX4_rollAllTrades, 3)) 5 rfl rfl
theorem qp6 : Cond.selects yX4_swapAt.cls yX4_swapAt yX4_swapAt ∈ Tw := tw_priv (q := (yX4_swapAt, 3)) 6 rfl rfl
theorem qp7 : Cond.selects yX4_swapWithPeriod.cls yX4_swapWithPeriod yX4_swapWithPeriod ∈ Tw := tw_priv (q := (yX4_swapWithPeriod, 3)) 7 rfl rfl
theorem qp8 : Cond.selects yX3_rateOf.cls yX3_rateOf yX3_rateOf ∈ Tw := tw_priv (q := (yX3_rateOf, 13)) 8 rfl rfl
theorem qp9 : Cond.selects yX3_daysOf.cls yX3_daysOf yX3_daysOf ∈ Tw := tw_priv (q := (yX3_daysOf, 13)) 9 rfl rfl
theorem qp10 : Cond.selects yX4_cashOnDay.cls yX4_cashOnDay yX4_cashOnDay ∈ Tw := tw_priv (q := (yX4_cashOnDay, 3)) 10 rfl rfl
theorem qp11 : Cond.selects yX5_opens.cls yX5_opens yX5_opens ∈ Tw := tw_priv (q := (yX5_opens, 24)) 11 rfl rfl
theorem qp12 : Cond.selects yX5_rolled.cls yX5_rolled yX5_rolled ∈ Tw := tw_priv (q := (yX5_rolled, 24)) 12 rfl rfl
theorem qp13 : Cond.selects yX5_fails.cls yX5_fails yX5_fails ∈ Tw := tw_priv (q := (yX5_fails, 24)) 13 rfl rfl
theorem qp14 : Cond.selects yX5_rate.cls yX5_rate yX5_rate ∈ Tw := tw_priv (q := (yX5_rate, 24)) 14 rfl rfl
theorem qp15 : Cond.selects yX5_isTrade.cls yX5_isTrade yX5_isTrade ∈ Tw := tw_priv (q := (yX5_isTrade, 24)) 15 rfl rfl
theorem qp16 : Cond.selects yX5_countBreaks.cls yX5_countBreaks yX5_countBreaks ∈ Tw := tw_priv (q := (yX5_countBreaks, 24)) 16 rfl rfl
theorem qp17 : Cond.selects yX5_rest.cls yX5_rest yX5_rest ∈ Tw := tw_priv (q := (yX5_rest, 24)) 17 rfl rfl
theorem qp18 : Cond.selects yX5_broken.cls yX5_broken yX5_broken ∈ Tw := tw_priv (q := (yX5_broken, 24)) 18 rfl rfl
theorem qp19 : Cond.selects yX5_breaks.cls yX5_breaks yX5_breaks ∈ Tw := tw_priv (q := (yX5_breaks, 24)) 19 rfl rfl
theorem qp20 : Cond.selects yX5_party.cls yX5_party yX5_party ∈ Tw := tw_priv (q := (yX5_party, 24)) 20 rfl rfl
theorem qp21 : Cond.selects yX5_areLike.cls yX5_areLike yX5_areLike ∈ Tw := tw_priv (q := (yX5_areLike, 24)) 21 rfl rfl
theorem qp22 : Cond.selects yX5_haveOneParty.cls yX5_haveOneParty yX5_haveOneParty ∈ Tw := tw_priv (q := (yX5_haveOneParty, 24)) 22 rfl rfl
theorem qp23 : Cond.selects yX5_begins.cls yX5_begins yX5_begins ∈ Tw := tw_priv (q := (yX5_begins, 24)) 23 rfl rfl
theorem qp24 : Cond.selects yX5_isPeriod.cls yX5_isPeriod yX5_isPeriod ∈ Tw := tw_priv (q := (yX5_isPeriod, 24)) 24 rfl rfl
theorem qp25 : Cond.selects yX5_lotsOf.cls yX5_lotsOf yX5_lotsOf ∈ Tw := tw_priv (q := (yX5_lotsOf, 24)) 25 rfl rfl
theorem qp26 : Cond.selects yX5_floats.cls yX5_floats yX5_floats ∈ Tw := tw_priv (q := (yX5_floats, 24)) 26 rfl rfl
theorem qp27 : Cond.selects yX5_days.cls yX5_days yX5_days ∈ Tw := tw_priv (q := (yX5_days, 24)) 27 rfl rfl
theorem qp28 : Cond.selects yX5_flowOf.cls yX5_flowOf yX5_flowOf ∈ Tw := tw_priv (q := (yX5_flowOf, 24)) 28 rfl rfl
theorem qp29 : Cond.selects yX5_sum.cls yX5_sum yX5_sum ∈ Tw := tw_priv (q := (yX5_sum, 24)) 29 rfl rfl
theorem qp30 : Cond.selects yX5_barsDays.cls yX5_barsDays yX5_barsDays ∈ Tw := tw_priv (q := (yX5_barsDays, 24)) 30 rfl rfl
end
section
theorem dJ9_floorDiv_f86c9_0 : decode cJ9_floorDiv_f86c9 0 = .ok (.lload_n 0, 1) := by decide +kernel
theorem dJ9_floorDiv_f86c9_1 : decode cJ9_floorDiv_f86c9 1 = .ok (.lload_n 2, 1) := by decide +kernel
theorem dJ9_floorDiv_f86c9_2 : decode cJ9_floorDiv_f86c9 2 = .ok (.ldiv, 1) := by decide +kernel
theorem dJ9_floorDiv_f86c9_3 : decode cJ9_floorDiv_f86c9 3 = .ok (.lstore 4, 2) := by decide +kernel
theorem dJ9_floorDiv_f86c9_5 : decode cJ9_floorDiv_f86c9 5 = .ok (.lload_n 0, 1) := by decide +kernel
theorem dJ9_floorDiv_f86c9_6 : decode cJ9_floorDiv_f86c9 6 = .ok (.lload_n 2, 1) := by decide +kernel
theorem dJ9_floorDiv_f86c9_7 : decode cJ9_floorDiv_f86c9 7 = .ok (.lxor, 1) := by decide +kernel
theorem dJ9_floorDiv_f86c9_8 : decode cJ9_floorDiv_f86c9 8 = .ok (.lconst 0, 1) := by decide +kernel
theorem dJ9_floorDiv_f86c9_9 : decode cJ9_floorDiv_f86c9 9 = .ok (.lcmp, 1) := by decide +kernel
theorem dJ9_floorDiv_f86c9_10 : decode cJ9_floorDiv_f86c9 10 = .ok (.ifCond .ge 17, 3) := by decide +kernel
theorem dJ9_floorDiv_f86c9_13 : decode cJ9_floorDiv_f86c9 13 = .ok (.lload 4, 2) := by decide +kernel
theorem dJ9_floorDiv_f86c9_15 : decode cJ9_floorDiv_f86c9 15 = .ok (.lload_n 2, 1) := by decide +kernel
theorem dJ9_floorDiv_f86c9_16 : decode cJ9_floorDiv_f86c9 16 = .ok (.lmul, 1) := by decide +kernel
theorem dJ9_floorDiv_f86c9_17 : decode cJ9_floorDiv_f86c9 17 = .ok (.lload_n 0, 1) := by decide +kernel
theorem dJ9_floorDiv_f86c9_18 : decode cJ9_floorDiv_f86c9 18 = .ok (.lcmp, 1) := by decide +kernel
theorem dJ9_floorDiv_f86c9_19 : decode cJ9_floorDiv_f86c9 19 = .ok (.ifCond .eq 8, 3) := by decide +kernel
theorem dJ9_floorDiv_f86c9_22 : decode cJ9_floorDiv_f86c9 22 = .ok (.lload 4, 2) := by decide +kernel
theorem dJ9_floorDiv_f86c9_24 : decode cJ9_floorDiv_f86c9 24 = .ok (.lconst 1, 1) := by decide +kernel
theorem dJ9_floorDiv_f86c9_25 : decode cJ9_floorDiv_f86c9 25 = .ok (.lsub, 1) := by decide +kernel
theorem dJ9_floorDiv_f86c9_26 : decode cJ9_floorDiv_f86c9 26 = .ok (.lreturn, 1) := by decide +kernel
theorem dJ9_floorDiv_f86c9_27 : decode cJ9_floorDiv_f86c9 27 = .ok (.lload 4, 2) := by decide +kernel
theorem dJ9_floorDiv_f86c9_29 : decode cJ9_floorDiv_f86c9 29 = .ok (.lreturn, 1) := by decide +kernel
theorem dJ9_floorMod_7cf53_0 : decode cJ9_floorMod_7cf53 0 = .ok (.iload_n 0, 1) := by decide +kernel
theorem dJ9_floorMod_7cf53_1 : decode cJ9_floorMod_7cf53 1 = .ok (.iload_n 1, 1) := by decide +kernel
theorem dJ9_floorMod_7cf53_2 : decode cJ9_floorMod_7cf53 2 = .ok (.irem, 1) := by decide +kernel
theorem dJ9_floorMod_7cf53_3 : decode cJ9_floorMod_7cf53 3 = .ok (.istore_n 2, 1) := by decide +kernel
theorem dJ9_floorMod_7cf53_4 : decode cJ9_floorMod_7cf53 4 = .ok (.iload_n 0, 1) := by decide +kernel
theorem dJ9_floorMod_7cf53_5 : decode cJ9_floorMod_7cf53 5 = .ok (.iload_n 1, 1) := by decide +kernel
theorem dJ9_floorMod_7cf53_6 : decode cJ9_floorMod_7cf53 6 = .ok (.ixor, 1) := by decide +kernel
theorem dJ9_floorMod_7cf53_7 : decode cJ9_floorMod_7cf53 7 = .ok (.ifCond .ge 11, 3) := by decide +kernel
theorem dJ9_floorMod_7cf53_10 : decode cJ9_floorMod_7cf53 10 = .ok (.iload_n 2, 1) := by decide +kernel
theorem dJ9_floorMod_7cf53_11 : decode cJ9_floorMod_7cf53 11 = .ok (.ifCond .eq 7, 3) := by decide +kernel
theorem dJ9_floorMod_7cf53_14 : decode cJ9_floorMod_7cf53 14 = .ok (.iload_n 2, 1) := by decide +kernel
theorem dJ9_floorMod_7cf53_15 : decode cJ9_floorMod_7cf53 15 = .ok (.iload_n 1, 1) := by decide +kernel
theorem dJ9_floorMod_7cf53_16 : decode cJ9_floorMod_7cf53 16 = .ok (.iadd, 1) := by decide +kernel
theorem dJ9_floorMod_7cf53_17 : decode cJ9_floorMod_7cf53 17 = .ok (.ireturn, 1) := by decide +kernel
theorem dJ9_floorMod_7cf53_18 : decode cJ9_floorMod_7cf53 18 = .ok (.iload_n 2, 1) := by decide +kernel
theorem dJ9_floorMod_7cf53_19 : decode cJ9_floorMod_7cf53 19 = .ok (.ireturn, 1) := by decide +kernel
theorem dJ9_max_7cf53_0 : decode cJ9_max_7cf53 0 = .ok (.iload_n 0, 1) := by decide +kernel
theorem dJ9_max_7cf53_1 : decode cJ9_max_7cf53 1 = .ok (.iload_n 1, 1) := by decide +kernel
theorem dJ9_max_7cf53_2 : decode cJ9_max_7cf53 2 = .ok (.if_icmp .lt 7, 3) := by decide +kernel
theorem dJ9_max_7cf53_5 : decode cJ9_max_7cf53 5 = .ok (.iload_n 0, 1) := by decide +kernel
theorem dJ9_max_7cf53_6 : decode cJ9_max_7cf53 6 = .ok (.goto 4, 3) := by decide +kernel
theorem dJ9_max_7cf53_9 : decode cJ9_max_7cf53 9 = .ok (.iload_n 1, 1) := by decide +kernel
theorem dJ9_max_7cf53_10 : decode cJ9_max_7cf53 10 = .ok (.ireturn, 1) := by decide +kernel
theorem dJ9_min_7cf53_0 : decode cJ9_min_7cf53 0 = .ok (.iload_n 0, 1) := by decide +kernel
theorem dJ9_min_7cf53_1 : decode cJ9_min_7cf53 1 = .ok (.iload_n 1, 1) := by decide +kernel
theorem dJ9_min_7cf53_2 : decode cJ9_min_7cf53 2 = .ok (.if_icmp .gt 7, 3) := by decide +kernel
theorem dJ9_min_7cf53_5 : decode cJ9_min_7cf53 5 = .ok (.iload_n 0, 1) := by decide +kernel
theorem dJ9_min_7cf53_6 : decode cJ9_min_7cf53 6 = .ok (.goto 4, 3) := by decide +kernel
theorem dJ9_min_7cf53_9 : decode cJ9_min_7cf53 9 = .ok (.iload_n 1, 1) := by decide +kernel
theorem dJ9_min_7cf53_10 : decode cJ9_min_7cf53 10 = .ok (.ireturn, 1) := by decide +kernel
theorem dJxa1e45_init_da8c8_0 : decode cJxa1e45_init_da8c8 0 = .ok (.aload_n 0, 1) := by decide +kernel
theorem dJxa1e45_init_da8c8_1 : decode cJxa1e45_init_da8c8 1 = .ok (.invokespecial 1, 3) := by decide +kernel
theorem dJxa1e45_init_da8c8_4 : decode cJxa1e45_init_da8c8 4 = .ok (.return_, 1) := by decide +kernel
theorem dJxc12de_init_da8c8_0 : decode cJxc12de_init_da8c8 0 = .ok (.aload_n 0, 1) := by decide +kernel
theorem dJxc12de_init_da8c8_1 : decode cJxc12de_init_da8c8 1 = .ok (.invokespecial 1, 3) := by decide +kernel
theorem dJxc12de_init_da8c8_4 : decode cJxc12de_init_da8c8 4 = .ok (.aload_n 0, 1) := by decide +kernel
theorem dJxc12de_init_da8c8_5 : decode cJxc12de_init_da8c8 5 = .ok (.iconst 0, 1) := by decide +kernel
theorem dJxc12de_init_da8c8_6 : decode cJxc12de_init_da8c8 6 = .ok (.putfield 7, 3) := by decide +kernel
theorem dJxc12de_init_da8c8_9 : decode cJxc12de_init_da8c8 9 = .ok (.return_, 1) := by decide +kernel
theorem dJx4a65c_init_da8c8_0 : decode cJx4a65c_init_da8c8 0 = .ok (.aload_n 0, 1) := by decide +kernel
theorem dJx4a65c_init_da8c8_1 : decode cJx4a65c_init_da8c8 1 = .ok (.invokespecial 1, 3) := by decide +kernel
theorem dJx4a65c_init_da8c8_4 : decode cJx4a65c_init_da8c8 4 = .ok (.aload_n 0, 1) := by decide +kernel
theorem dJx4a65c_init_da8c8_5 : decode cJx4a65c_init_da8c8 5 = .ok (.getstatic 39, 3) := by decide +kernel
theorem dJx4a65c_init_da8c8_8 : decode cJx4a65c_init_da8c8 8 = .ok (.putfield 9, 3) := by decide +kernel
theorem dJx4a65c_init_da8c8_11 : decode cJx4a65c_init_da8c8 11 = .ok (.return_, 1) := by decide +kernel
theorem dJx4a65c_grow_92f84_0 : decode cJx4a65c_grow_92f84 0 = .ok (.aload_n 0, 1) := by decide +kernel
theorem dJx4a65c_grow_92f84_1 : decode cJx4a65c_grow_92f84 1 = .ok (.getfield 9, 3) := by decide +kernel
theorem dJx4a65c_grow_92f84_4 : decode cJx4a65c_grow_92f84 4 = .ok (.arraylength, 1) := by decide +kernel
theorem dJx4a65c_grow_92f84_5 : decode cJx4a65c_grow_92f84 5 = .ok (.istore_n 2, 1) := by decide +kernel
theorem dJx4a65c_grow_92f84_6 : decode cJx4a65c_grow_92f84 6 = .ok (.iload_n 2, 1) := by decide +kernel
theorem dJx4a65c_grow_92f84_7 : decode cJx4a65c_grow_92f84 7 = .ok (.ifCond .gt 13, 3) := by decide +kernel
theorem dJx4a65c_grow_92f84_10 : decode cJx4a65c_grow_92f84 10 = .ok (.aload_n 0, 1) := by decide +kernel
theorem dJx4a65c_grow_92f84_11 : decode cJx4a65c_grow_92f84 11 = .ok (.getfield 9, 3) := by decide +kernel
theorem dJx4a65c_grow_92f84_14 : decode cJx4a65c_grow_92f84 14 = .ok (.getstatic 39, 3) := by decide +kernel
theorem dJx4a65c_grow_92f84_17 : decode cJx4a65c_grow_92f84 17 = .ok (.if_acmp .eq 28, 3) := by decide +kernel
theorem dJx4a65c_grow_92f84_20 : decode cJx4a65c_grow_92f84 20 = .ok (.iload_n 2, 1) := by decide +kernel
theorem dJx4a65c_grow_92f84_21 : decode cJx4a65c_grow_92f84 21 = .ok (.iload_n 1, 1) := by decide +kernel
theorem dJx4a65c_grow_92f84_22 : decode cJx4a65c_grow_92f84 22 = .ok (.iload_n 2, 1) := by decide +kernel
theorem dJx4a65c_grow_92f84_23 : decode cJx4a65c_grow_92f84 23 = .ok (.isub, 1) := by decide +kernel
theorem dJx4a65c_grow_92f84_24 : decode cJx4a65c_grow_92f84 24 = .ok (.iload_n 2, 1) := by decide +kernel
theorem dJx4a65c_grow_92f84_25 : decode cJx4a65c_grow_92f84 25 = .ok (.iconst 1, 1) := by decide +kernel
theorem dJx4a65c_grow_92f84_26 : decode cJx4a65c_grow_92f84 26 = .ok (.ishr, 1) := by decide +kernel
theorem dJx4a65c_grow_92f84_27 : decode cJx4a65c_grow_92f84 27 = .ok (.invokestatic 73, 3) := by decide +kernel
theorem dJx4a65c_grow_92f84_30 : decode cJx4a65c_grow_92f84 30 = .ok (.istore_n 3, 1) := by decide +kernel
theorem dJx4a65c_grow_92f84_31 : decode cJx4a65c_grow_92f84 31 = .ok (.aload_n 0, 1) := by decide +kernel
theorem dJx4a65c_grow_92f84_32 : decode cJx4a65c_grow_92f84 32 = .ok (.aload_n 0, 1) := by decide +kernel
theorem dJx4a65c_grow_92f84_33 : decode cJx4a65c_grow_92f84 33 = .ok (.getfield 9, 3) := by decide +kernel
theorem dJx4a65c_grow_92f84_36 : decode cJx4a65c_grow_92f84 36 = .ok (.iload_n 3, 1) := by decide +kernel
theorem dJx4a65c_grow_92f84_37 : decode cJx4a65c_grow_92f84 37 = .ok (.invokestatic 66, 3) := by decide +kernel
theorem dJx4a65c_grow_92f84_40 : decode cJx4a65c_grow_92f84 40 = .ok (.dup_x1, 1) := by decide +kernel
theorem dJx4a65c_grow_92f84_41 : decode cJx4a65c_grow_92f84 41 = .ok (.putfield 9, 3) := by decide +kernel
theorem dJx4a65c_grow_92f84_44 : decode cJx4a65c_grow_92f84 44 = .ok (.areturn, 1) := by decide +kernel
theorem dJx4a65c_grow_92f84_45 : decode cJx4a65c_grow_92f84 45 = .ok (.aload_n 0, 1) := by decide +kernel
theorem dJx4a65c_grow_92f84_46 : decode cJx4a65c_grow_92f84 46 = .ok (.bipush 10, 2) := by decide +kernel
theorem dJx4a65c_grow_92f84_48 : decode cJx4a65c_grow_92f84 48 = .ok (.iload_n 1, 1) := by decide +kernel
theorem dJx4a65c_grow_92f84_49 : decode cJx4a65c_grow_92f84 49 = .ok (.invokestatic 79, 3) := by decide +kernel
theorem dJx4a65c_grow_92f84_52 : decode cJx4a65c_grow_92f84 52 = .ok (.anewarray 7, 3) := by decide +kernel
theorem dJx4a65c_grow_92f84_55 : decode cJx4a65c_grow_92f84 55 = .ok (.dup_x1, 1) := by decide +kernel
theorem dJx4a65c_grow_92f84_56 : decode cJx4a65c_grow_92f84 56 = .ok (.putfield 9, 3) := by decide +kernel
theorem dJx4a65c_grow_92f84_59 : decode cJx4a65c_grow_92f84 59 = .ok (.areturn, 1) := by decide +kernel
theorem dJx4a65c_grow_d5877_0 : decode cJx4a65c_grow_d5877 0 = .ok (.aload_n 0, 1) := by decide +kernel
theorem dJx4a65c_grow_d5877_1 : decode cJx4a65c_grow_d5877 1 = .ok (.aload_n 0, 1) := by decide +kernel
theorem dJx4a65c_grow_d5877_2 : decode cJx4a65c_grow_d5877 2 = .ok (.getfield 48, 3) := by decide +kernel
theorem dJx4a65c_grow_d5877_5 : decode cJx4a65c_grow_d5877 5 = .ok (.iconst 1, 1) := by decide +kernel
theorem dJx4a65c_grow_d5877_6 : decode cJx4a65c_grow_d5877 6 = .ok (.iadd, 1) := by decide +kernel
theorem dJx4a65c_grow_d5877_7 : decode cJx4a65c_grow_d5877 7 = .ok (.invokevirtual 69, 3) := by decide +kernel
theorem dJx4a65c_grow_d5877_10 : decode cJx4a65c_grow_d5877 10 = .ok (.areturn, 1) := by decide +kernel
theorem dJx4a65c_size_8abf5_0 : decode cJx4a65c_size_8abf5 0 = .ok (.aload_n 0, 1) := by decide +kernel
theorem dJx4a65c_size_8abf5_1 : decode cJx4a65c_size_8abf5 1 = .ok (.getfield 48, 3) := by decide +kernel
theorem dJx4a65c_size_8abf5_4 : decode cJx4a65c_size_8abf5 4 = .ok (.ireturn, 1) := by decide +kernel
theorem dJx4a65c_elementData_915e3_0 : decode cJx4a65c_elementData_915e3 0 = .ok (.aload_n 0, 1) := by decide +kernel
theorem dJx4a65c_elementData_915e3_1 : decode cJx4a65c_elementData_915e3 1 = .ok (.getfield 9, 3) := by decide +kernel
theorem dJx4a65c_elementData_915e3_4 : decode cJx4a65c_elementData_915e3 4 = .ok (.iload_n 1, 1) := by decide +kernel
theorem dJx4a65c_elementData_915e3_5 : decode cJx4a65c_elementData_915e3 5 = .ok (.aaload, 1) := by decide +kernel
theorem dJx4a65c_elementData_915e3_6 : decode cJx4a65c_elementData_915e3 6 = .ok (.areturn, 1) := by decide +kernel
theorem dJx4a65c_get_915e3_0 : decode cJx4a65c_get_915e3 0 = .ok (.iload_n 1, 1) := by decide +kernel
theorem dJx4a65c_get_915e3_1 : decode cJx4a65c_get_915e3 1 = .ok (.aload_n 0, 1) := by decide +kernel
theorem dJx4a65c_get_915e3_2 : decode cJx4a65c_get_915e3 2 = .ok (.getfield 48, 3) := by decide +kernel
theorem dJx4a65c_get_915e3_5 : decode cJx4a65c_get_915e3 5 = .ok (.invokestatic 118, 3) := by decide +kernel
theorem dJx4a65c_get_915e3_8 : decode cJx4a65c_get_915e3 8 = .ok (.pop, 1) := by decide +kernel
theorem dJx4a65c_get_915e3_9 : decode cJx4a65c_get_915e3 9 = .ok (.aload_n 0, 1) := by decide +kernel
theorem dJx4a65c_get_915e3_10 : decode cJx4a65c_get_915e3 10 = .ok (.iload_n 1, 1) := by decide +kernel
theorem dJx4a65c_get_915e3_11 : decode cJx4a65c_get_915e3 11 = .ok (.invokevirtual 123, 3) := by decide +kernel
theorem dJx4a65c_get_915e3_14 : decode cJx4a65c_get_915e3 14 = .ok (.areturn, 1) := by decide +kernel
theorem dJx4a65c_add_72be8_0 : decode cJx4a65c_add_72be8 0 = .ok (.iload_n 3, 1) := by decide +kernel
theorem dJx4a65c_add_72be8_1 : decode cJx4a65c_add_72be8 1 = .ok (.aload_n 2, 1) := by decide +kernel
theorem dJx4a65c_add_72be8_2 : decode cJx4a65c_add_72be8 2 = .ok (.arraylength, 1) := by decide +kernel
theorem dJx4a65c_add_72be8_3 : decode cJx4a65c_add_72be8 3 = .ok (.if_icmp .ne 8, 3) := by decide +kernel
theorem dJx4a65c_add_72be8_6 : decode cJx4a65c_add_72be8 6 = .ok (.aload_n 0, 1) := by decide +kernel
theorem dJx4a65c_add_72be8_7 : decode cJx4a65c_add_72be8 7 = .ok (.invokevirtual 129, 3) := by decide +kernel
theorem dJx4a65c_add_72be8_10 : decode cJx4a65c_add_72be8 10 = .ok (.astore_n 2, 1) := by decide +kernel
theorem dJx4a65c_add_72be8_11 : decode cJx4a65c_add_72be8 11 = .ok (.aload_n 2, 1) := by decide +kernel
theorem dJx4a65c_add_72be8_12 : decode cJx4a65c_add_72be8 12 = .ok (.iload_n 3, 1) := by decide +kernel
theorem dJx4a65c_add_72be8_13 : decode cJx4a65c_add_72be8 13 = .ok (.aload_n 1, 1) := by decide +kernel
theorem dJx4a65c_add_72be8_14 : decode cJx4a65c_add_72be8 14 = .ok (.aastore, 1) := by decide +kernel
theorem dJx4a65c_add_72be8_15 : decode cJx4a65c_add_72be8 15 = .ok (.aload_n 0, 1) := by decide +kernel
theorem dJx4a65c_add_72be8_16 : decode cJx4a65c_add_72be8 16 = .ok (.iload_n 3, 1) := by decide +kernel
theorem dJx4a65c_add_72be8_17 : decode cJx4a65c_add_72be8 17 = .ok (.iconst 1, 1) := by decide +kernel
theorem dJx4a65c_add_72be8_18 : decode cJx4a65c_add_72be8 18 = .ok (.iadd, 1) := by decide +kernel
theorem dJx4a65c_add_72be8_19 : decode cJx4a65c_add_72be8 19 = .ok (.putfield 48, 3) := by decide +kernel
theorem dJx4a65c_add_72be8_22 : decode cJx4a65c_add_72be8 22 = .ok (.return_, 1) := by decide +kernel
theorem dJx4a65c_add_9ea2d_0 : decode cJx4a65c_add_9ea2d 0 = .ok (.aload_n 0, 1) := by decide +kernel
theorem dJx4a65c_add_9ea2d_1 : decode cJx4a65c_add_9ea2d 1 = .ok (.dup, 1) := by decide +kernel
theorem dJx4a65c_add_9ea2d_2 : decode cJx4a65c_add_9ea2d 2 = .ok (.getfield 63, 3) := by decide +kernel
theorem dJx4a65c_add_9ea2d_5 : decode cJx4a65c_add_9ea2d 5 = .ok (.iconst 1, 1) := by decide +kernel
theorem dJx4a65c_add_9ea2d_6 : decode cJx4a65c_add_9ea2d 6 = .ok (.iadd, 1) := by decide +kernel
theorem dJx4a65c_add_9ea2d_7 : decode cJx4a65c_add_9ea2d 7 = .ok (.putfield 63, 3) := by decide +kernel
theorem dJx4a65c_add_9ea2d_10 : decode cJx4a65c_add_9ea2d 10 = .ok (.aload_n 0, 1) := by decide +kernel
theorem dJx4a65c_add_9ea2d_11 : decode cJx4a65c_add_9ea2d 11 = .ok (.aload_n 1, 1) := by decide +kernel
theorem dJx4a65c_add_9ea2d_12 : decode cJx4a65c_add_9ea2d 12 = .ok (.aload_n 0, 1) := by decide +kernel
theorem dJx4a65c_add_9ea2d_13 : decode cJx4a65c_add_9ea2d 13 = .ok (.getfield 9, 3) := by decide +kernel
theorem dJx4a65c_add_9ea2d_16 : decode cJx4a65c_add_9ea2d 16 = .ok (.aload_n 0, 1) := by decide +kernel
theorem dJx4a65c_add_9ea2d_17 : decode cJx4a65c_add_9ea2d 17 = .ok (.getfield 48, 3) := by decide +kernel
theorem dJx4a65c_add_9ea2d_20 : decode cJx4a65c_add_9ea2d 20 = .ok (.invokevirtual 131, 3) := by decide +kernel
theorem dJx4a65c_add_9ea2d_23 : decode cJx4a65c_add_9ea2d 23 = .ok (.iconst 1, 1) := by decide +kernel
theorem dJx4a65c_add_9ea2d_24 : decode cJx4a65c_add_9ea2d 24 = .ok (.ireturn, 1) := by decide +kernel
theorem dJ7_copyOf_1904c_0 : decode cJ7_copyOf_1904c 0 = .ok (.aload_n 0, 1) := by decide +kernel
theorem dJ7_copyOf_1904c_1 : decode cJ7_copyOf_1904c 1 = .ok (.iload_n 1, 1) := by decide +kernel
theorem dJ7_copyOf_1904c_2 : decode cJ7_copyOf_1904c 2 = .ok (.aload_n 0, 1) := by decide +kernel
theorem dJ7_copyOf_1904c_3 : decode cJ7_copyOf_1904c 3 = .ok (.invokevirtual 86, 3) := by decide +kernel
theorem dJ7_copyOf_1904c_6 : decode cJ7_copyOf_1904c 6 = .ok (.invokestatic 300, 3) := by decide +kernel
theorem dJ7_copyOf_1904c_9 : decode cJ7_copyOf_1904c 9 = .ok (.areturn, 1) := by decide +kernel
theorem dJ7_copyOf_6403c_0 : decode cJ7_copyOf_6403c 0 = .ok (.aload_n 2, 1) := by decide +kernel
theorem dJ7_copyOf_6403c_1 : decode cJ7_copyOf_6403c 1 = .ok (.ldc 110, 2) := by decide +kernel
theorem dJ7_copyOf_6403c_3 : decode cJ7_copyOf_6403c 3 = .ok (.if_acmp .ne 10, 3) := by decide +kernel
theorem dJ7_copyOf_6403c_6 : decode cJ7_copyOf_6403c 6 = .ok (.iload_n 1, 1) := by decide +kernel
theorem dJ7_copyOf_6403c_7 : decode cJ7_copyOf_6403c 7 = .ok (.anewarray 2, 3) := by decide +kernel
theorem dJ7_copyOf_6403c_10 : decode cJ7_copyOf_6403c 10 = .ok (.goto 14, 3) := by decide +kernel
theorem dJ7_copyOf_6403c_13 : decode cJ7_copyOf_6403c 13 = .ok (.aload_n 2, 1) := by decide +kernel
theorem dJ7_copyOf_6403c_14 : decode cJ7_copyOf_6403c 14 = .ok (.invokevirtual 90, 3) := by decide +kernel
theorem dJ7_copyOf_6403c_17 : decode cJ7_copyOf_6403c 17 = .ok (.iload_n 1, 1) := by decide +kernel
theorem dJ7_copyOf_6403c_18 : decode cJ7_copyOf_6403c 18 = .ok (.invokestatic 95, 3) := by decide +kernel
theorem dJ7_copyOf_6403c_21 : decode cJ7_copyOf_6403c 21 = .ok (.checkcast 110, 3) := by decide +kernel
theorem dJ7_copyOf_6403c_24 : decode cJ7_copyOf_6403c 24 = .ok (.astore_n 3, 1) := by decide +kernel
theorem dJ7_copyOf_6403c_25 : decode cJ7_copyOf_6403c 25 = .ok (.aload_n 0, 1) := by decide +kernel
theorem dJ7_copyOf_6403c_26 : decode cJ7_copyOf_6403c 26 = .ok (.iconst 0, 1) := by decide +kernel
theorem dJ7_copyOf_6403c_27 : decode cJ7_copyOf_6403c 27 = .ok (.aload_n 3, 1) := by decide +kernel
theorem dJ7_copyOf_6403c_28 : decode cJ7_copyOf_6403c 28 = .ok (.iconst 0, 1) := by decide +kernel
theorem dJ7_copyOf_6403c_29 : decode cJ7_copyOf_6403c 29 = .ok (.aload_n 0, 1) := by decide +kernel
theorem dJ7_copyOf_6403c_30 : decode cJ7_copyOf_6403c 30 = .ok (.arraylength, 1) := by decide +kernel
theorem dJ7_copyOf_6403c_31 : decode cJ7_copyOf_6403c 31 = .ok (.iload_n 1, 1) := by decide +kernel
theorem dJ7_copyOf_6403c_32 : decode cJ7_copyOf_6403c 32 = .ok (.invokestatic 304, 3) := by decide +kernel
theorem dJ7_copyOf_6403c_35 : decode cJ7_copyOf_6403c 35 = .ok (.invokestatic 150, 3) := by decide +kernel
theorem dJ7_copyOf_6403c_38 : decode cJ7_copyOf_6403c 38 = .ok (.aload_n 3, 1) := by decide +kernel
theorem dJ7_copyOf_6403c_39 : decode cJ7_copyOf_6403c 39 = .ok (.areturn, 1) := by decide +kernel
theorem dJ15_checkIndex_7cf53_0 : decode cJ15_checkIndex_7cf53 0 = .ok (.iload_n 0, 1) := by decide +kernel
theorem dJ15_checkIndex_7cf53_1 : decode cJ15_checkIndex_7cf53 1 = .ok (.iload_n 1, 1) := by decide +kernel
theorem dJ15_checkIndex_7cf53_2 : decode cJ15_checkIndex_7cf53 2 = .ok (.aconst_null, 1) := by decide +kernel
theorem dJ15_checkIndex_7cf53_3 : decode cJ15_checkIndex_7cf53 3 = .ok (.invokestatic 105, 3) := by decide +kernel
theorem dJ15_checkIndex_7cf53_6 : decode cJ15_checkIndex_7cf53 6 = .ok (.ireturn, 1) := by decide +kernel
theorem dJ8_newLength_cabcc_0 : decode cJ8_newLength_cabcc 0 = .ok (.iload_n 0, 1) := by decide +kernel
theorem dJ8_newLength_cabcc_1 : decode cJ8_newLength_cabcc 1 = .ok (.iload_n 1, 1) := by decide +kernel
theorem dJ8_newLength_cabcc_2 : decode cJ8_newLength_cabcc 2 = .ok (.iload_n 2, 1) := by decide +kernel
theorem dJ8_newLength_cabcc_3 : decode cJ8_newLength_cabcc 3 = .ok (.invokestatic 194, 3) := by decide +kernel
theorem dJ8_newLength_cabcc_6 : decode cJ8_newLength_cabcc 6 = .ok (.iadd, 1) := by decide +kernel
theorem dJ8_newLength_cabcc_7 : decode cJ8_newLength_cabcc 7 = .ok (.istore_n 3, 1) := by decide +kernel
theorem dJ8_newLength_cabcc_8 : decode cJ8_newLength_cabcc 8 = .ok (.iconst 0, 1) := by decide +kernel
theorem dJ8_newLength_cabcc_9 : decode cJ8_newLength_cabcc 9 = .ok (.iload_n 3, 1) := by decide +kernel
theorem dJ8_newLength_cabcc_10 : decode cJ8_newLength_cabcc 10 = .ok (.if_icmp .ge 11, 3) := by decide +kernel
theorem dJ8_newLength_cabcc_13 : decode cJ8_newLength_cabcc 13 = .ok (.iload_n 3, 1) := by decide +kernel
theorem dJ8_newLength_cabcc_14 : decode cJ8_newLength_cabcc 14 = .ok (.ldc 200, 2) := by decide +kernel
theorem dJ8_newLength_cabcc_16 : decode cJ8_newLength_cabcc 16 = .ok (.if_icmp .gt 5, 3) := by decide +kernel
theorem dJ8_newLength_cabcc_19 : decode cJ8_newLength_cabcc 19 = .ok (.iload_n 3, 1) := by decide +kernel
theorem dJ8_newLength_cabcc_20 : decode cJ8_newLength_cabcc 20 = .ok (.ireturn, 1) := by decide +kernel
theorem dJ8_newLength_cabcc_21 : decode cJ8_newLength_cabcc 21 = .ok (.iload_n 0, 1) := by decide +kernel
theorem dJ8_newLength_cabcc_22 : decode cJ8_newLength_cabcc 22 = .ok (.iload_n 1, 1) := by decide +kernel
theorem dJ8_newLength_cabcc_23 : decode cJ8_newLength_cabcc 23 = .ok (.invokestatic 201, 3) := by decide +kernel
theorem dJ8_newLength_cabcc_26 : decode cJ8_newLength_cabcc 26 = .ok (.ireturn, 1) := by decide +kernel
theorem dJ8_hugeLength_7cf53_0 : decode cJ8_hugeLength_7cf53 0 = .ok (.iload_n 0, 1) := by decide +kernel
theorem dJ8_hugeLength_7cf53_1 : decode cJ8_hugeLength_7cf53 1 = .ok (.iload_n 1, 1) := by decide +kernel
theorem dJ8_hugeLength_7cf53_2 : decode cJ8_hugeLength_7cf53 2 = .ok (.iadd, 1) := by decide +kernel
theorem dJ8_hugeLength_7cf53_3 : decode cJ8_hugeLength_7cf53 3 = .ok (.istore_n 2, 1) := by decide +kernel
theorem dJ8_hugeLength_7cf53_4 : decode cJ8_hugeLength_7cf53 4 = .ok (.iload_n 2, 1) := by decide +kernel
theorem dJ8_hugeLength_7cf53_5 : decode cJ8_hugeLength_7cf53 5 = .ok (.ifCond .ge 44, 3) := by decide +kernel
theorem dJ8_hugeLength_7cf53_8 : decode cJ8_hugeLength_7cf53 8 = .ok (.new 204, 3) := by decide +kernel
theorem dJ8_hugeLength_7cf53_11 : decode cJ8_hugeLength_7cf53 11 = .ok (.dup, 1) := by decide +kernel
theorem dJ8_hugeLength_7cf53_12 : decode cJ8_hugeLength_7cf53 12 = .ok (.new 89, 3) := by decide +kernel
theorem dJ8_hugeLength_7cf53_15 : decode cJ8_hugeLength_7cf53 15 = .ok (.dup, 1) := by decide +kernel
theorem dJ8_hugeLength_7cf53_16 : decode cJ8_hugeLength_7cf53 16 = .ok (.invokespecial 91, 3) := by decide +kernel
theorem dJ8_hugeLength_7cf53_19 : decode cJ8_hugeLength_7cf53 19 = .ok (.ldc 206, 2) := by decide +kernel
theorem dJ8_hugeLength_7cf53_21 : decode cJ8_hugeLength_7cf53 21 = .ok (.invokevirtual 94, 3) := by decide +kernel
theorem dJ8_hugeLength_7cf53_24 : decode cJ8_hugeLength_7cf53 24 = .ok (.iload_n 0, 1) := by decide +kernel
theorem dJ8_hugeLength_7cf53_25 : decode cJ8_hugeLength_7cf53 25 = .ok (.invokevirtual 98, 3) := by decide +kernel
theorem dJ8_hugeLength_7cf53_28 : decode cJ8_hugeLength_7cf53 28 = .ok (.ldc 208, 2) := by decide +kernel
theorem dJ8_hugeLength_7cf53_30 : decode cJ8_hugeLength_7cf53 30 = .ok (.invokevirtual 94, 3) := by decide +kernel
theorem dJ8_hugeLength_7cf53_33 : decode cJ8_hugeLength_7cf53 33 = .ok (.iload_n 1, 1) := by decide +kernel
theorem dJ8_hugeLength_7cf53_34 : decode cJ8_hugeLength_7cf53 34 = .ok (.invokevirtual 98, 3) := by decide +kernel
theorem dJ8_hugeLength_7cf53_37 : decode cJ8_hugeLength_7cf53 37 = .ok (.ldc 210, 2) := by decide +kernel
theorem dJ8_hugeLength_7cf53_39 : decode cJ8_hugeLength_7cf53 39 = .ok (.invokevirtual 94, 3) := by decide +kernel
theorem dJ8_hugeLength_7cf53_42 : decode cJ8_hugeLength_7cf53 42 = .ok (.invokevirtual 101, 3) := by decide +kernel
theorem dJ8_hugeLength_7cf53_45 : decode cJ8_hugeLength_7cf53 45 = .ok (.invokespecial 212, 3) := by decide +kernel
theorem dJ8_hugeLength_7cf53_48 : decode cJ8_hugeLength_7cf53 48 = .ok (.athrow, 1) := by decide +kernel
theorem dJ8_hugeLength_7cf53_49 : decode cJ8_hugeLength_7cf53 49 = .ok (.iload_n 2, 1) := by decide +kernel
theorem dJ8_hugeLength_7cf53_50 : decode cJ8_hugeLength_7cf53 50 = .ok (.ldc 200, 2) := by decide +kernel
theorem dJ8_hugeLength_7cf53_52 : decode cJ8_hugeLength_7cf53 52 = .ok (.if_icmp .gt 6, 3) := by decide +kernel
theorem dJ8_hugeLength_7cf53_55 : decode cJ8_hugeLength_7cf53 55 = .ok (.ldc 200, 2) := by decide +kernel
theorem dJ8_hugeLength_7cf53_57 : decode cJ8_hugeLength_7cf53 57 = .ok (.ireturn, 1) := by decide +kernel
theorem dJ8_hugeLength_7cf53_58 : decode cJ8_hugeLength_7cf53 58 = .ok (.iload_n 2, 1) := by decide +kernel
theorem dJ8_hugeLength_7cf53_59 : decode cJ8_hugeLength_7cf53 59 = .ok (.ireturn, 1) := by decide +kernel
theorem dJ3_checkIndex_8e157_0 : decode cJ3_checkIndex_8e157 0 = .ok (.iload_n 0, 1) := by decide +kernel
theorem dJ3_checkIndex_8e157_1 : decode cJ3_checkIndex_8e157 1 = .ok (.ifCond .lt 8, 3) := by decide +kernel
theorem dJ3_checkIndex_8e157_4 : decode cJ3_checkIndex_8e157 4 = .ok (.iload_n 0, 1) := by decide +kernel
theorem dJ3_checkIndex_8e157_5 : decode cJ3_checkIndex_8e157 5 = .ok (.iload_n 1, 1) := by decide +kernel
theorem dJ3_checkIndex_8e157_6 : decode cJ3_checkIndex_8e157 6 = .ok (.if_icmp .lt 10, 3) := by decide +kernel
theorem dJ3_checkIndex_8e157_9 : decode cJ3_checkIndex_8e157 9 = .ok (.aload_n 2, 1) := by decide +kernel
theorem dJ3_checkIndex_8e157_10 : decode cJ3_checkIndex_8e157 10 = .ok (.iload_n 0, 1) := by decide +kernel
theorem dJ3_checkIndex_8e157_11 : decode cJ3_checkIndex_8e157 11 = .ok (.iload_n 1, 1) := by decide +kernel
theorem dJ3_checkIndex_8e157_12 : decode cJ3_checkIndex_8e157 12 = .ok (.invokestatic 95, 3) := by decide +kernel
theorem dJ3_checkIndex_8e157_15 : decode cJ3_checkIndex_8e157 15 = .ok (.athrow, 1) := by decide +kernel
theorem dJ3_checkIndex_8e157_16 : decode cJ3_checkIndex_8e157 16 = .ok (.iload_n 0, 1) := by decide +kernel
theorem dJ3_checkIndex_8e157_17 : decode cJ3_checkIndex_8e157 17 = .ok (.ireturn, 1) := by decide +kernel
theorem dX0_init_0 : decode cX0_init 0 = .ok (.aload_n 0, 1) := by decide +kernel
theorem dX0_init_1 : decode cX0_init 1 = .ok (.invokespecial 3, 3) := by decide +kernel
theorem dX0_init_4 : decode cX0_init 4 = .ok (.aload_n 0, 1) := by decide +kernel
theorem dX0_init_5 : decode cX0_init 5 = .ok (.new 9, 3) := by decide +kernel
theorem dX0_init_8 : decode cX0_init 8 = .ok (.dup, 1) := by decide +kernel
theorem dX0_init_9 : decode cX0_init 9 = .ok (.invokespecial 11, 3) := by decide +kernel
theorem dX0_init_12 : decode cX0_init 12 = .ok (.putfield 12, 3) := by decide +kernel
theorem dX0_init_15 : decode cX0_init 15 = .ok (.aload_n 0, 1) := by decide +kernel
theorem dX0_init_16 : decode cX0_init 16 = .ok (.new 9, 3) := by decide +kernel
theorem dX0_init_19 : decode cX0_init 19 = .ok (.dup, 1) := by decide +kernel
theorem dX0_init_20 : decode cX0_init 20 = .ok (.invokespecial 11, 3) := by decide +kernel
theorem dX0_init_23 : decode cX0_init 23 = .ok (.putfield 18, 3) := by decide +kernel
theorem dX0_init_26 : decode cX0_init 26 = .ok (.return_, 1) := by decide +kernel
theorem dX0_holidaysOf_0 : decode cX0_holidaysOf 0 = .ok (.iload_n 1, 1) := by decide +kernel
theorem dX0_holidaysOf_1 : decode cX0_holidaysOf 1 = .ok (.ifCond .ne 10, 3) := by decide +kernel
theorem dX0_holidaysOf_4 : decode cX0_holidaysOf 4 = .ok (.aload_n 0, 1) := by decide +kernel
theorem dX0_holidaysOf_5 : decode cX0_holidaysOf 5 = .ok (.getfield 12, 3) := by decide +kernel
theorem dX0_holidaysOf_8 : decode cX0_holidaysOf 8 = .ok (.goto 7, 3) := by decide +kernel
theorem dX0_holidaysOf_11 : decode cX0_holidaysOf 11 = .ok (.aload_n 0, 1) := by decide +kernel
theorem dX0_holidaysOf_12 : decode cX0_holidaysOf 12 = .ok (.getfield 18, 3) := by decide +kernel
theorem dX0_holidaysOf_15 : decode cX0_holidaysOf 15 = .ok (.areturn, 1) := by decide +kernel
theorem dX0_opensOn_0 : decode cX0_opensOn 0 = .ok (.iload_n 1, 1) := by decide +kernel
theorem dX0_opensOn_1 : decode cX0_opensOn 1 = .ok (.bipush 7, 2) := by decide +kernel
theorem dX0_opensOn_3 : decode cX0_opensOn 3 = .ok (.invokestatic 21, 3) := by decide +kernel
theorem dX0_opensOn_6 : decode cX0_opensOn 6 = .ok (.iconst 5, 1) := by decide +kernel
theorem dX0_opensOn_7 : decode cX0_opensOn 7 = .ok (.if_icmp .ge 29, 3) := by decide +kernel
theorem dX0_opensOn_10 : decode cX0_opensOn 10 = .ok (.aload_n 0, 1) := by decide +kernel
theorem dX0_opensOn_11 : decode cX0_opensOn 11 = .ok (.getfield 12, 3) := by decide +kernel
theorem dX0_opensOn_14 : decode cX0_opensOn 14 = .ok (.iload_n 1, 1) := by decide +kernel
theorem dX0_opensOn_15 : decode cX0_opensOn 15 = .ok (.invokevirtual 27, 3) := by decide +kernel
theorem dX0_opensOn_18 : decode cX0_opensOn 18 = .ok (.ifCond .ne 18, 3) := by decide +kernel
theorem dX0_opensOn_21 : decode cX0_opensOn 21 = .ok (.aload_n 0, 1) := by decide +kernel
theorem dX0_opensOn_22 : decode cX0_opensOn 22 = .ok (.getfield 18, 3) := by decide +kernel
theorem dX0_opensOn_25 : decode cX0_opensOn 25 = .ok (.iload_n 1, 1) := by decide +kernel
theorem dX0_opensOn_26 : decode cX0_opensOn 26 = .ok (.invokevirtual 27, 3) := by decide +kernel
theorem dX0_opensOn_29 : decode cX0_opensOn 29 = .ok (.ifCond .ne 7, 3) := by decide +kernel
theorem dX0_opensOn_32 : decode cX0_opensOn 32 = .ok (.iconst 1, 1) := by decide +kernel
theorem dX0_opensOn_33 : decode cX0_opensOn 33 = .ok (.goto 4, 3) := by decide +kernel
theorem dX0_opensOn_36 : decode cX0_opensOn 36 = .ok (.iconst 0, 1) := by decide +kernel
theorem dX0_opensOn_37 : decode cX0_opensOn 37 = .ok (.ireturn, 1) := by decide +kernel
theorem dX0_rolledDayOf_0 : decode cX0_rolledDayOf 0 = .ok (.iload_n 1, 1) := by decide +kernel
theorem dX0_rolledDayOf_1 : decode cX0_rolledDayOf 1 = .ok (.istore_n 2, 1) := by decide +kernel
theorem dX0_rolledDayOf_2 : decode cX0_rolledDayOf 2 = .ok (.iconst 0, 1) := by decide +kernel
theorem dX0_rolledDayOf_3 : decode cX0_rolledDayOf 3 = .ok (.istore_n 3, 1) := by decide +kernel
theorem dX0_rolledDayOf_4 : decode cX0_rolledDayOf 4 = .ok (.iload_n 3, 1) := by decide +kernel
theorem dX0_rolledDayOf_5 : decode cX0_rolledDayOf 5 = .ok (.sipush 1000, 3) := by decide +kernel
theorem dX0_rolledDayOf_8 : decode cX0_rolledDayOf 8 = .ok (.if_icmp .ge 20, 3) := by decide +kernel
theorem dX0_rolledDayOf_11 : decode cX0_rolledDayOf 11 = .ok (.aload_n 0, 1) := by decide +kernel
theorem dX0_rolledDayOf_12 : decode cX0_rolledDayOf 12 = .ok (.iload_n 2, 1) := by decide +kernel
theorem dX0_rolledDayOf_13 : decode cX0_rolledDayOf 13 = .ok (.invokevirtual 31, 3) := by decide +kernel
theorem dX0_rolledDayOf_16 : decode cX0_rolledDayOf 16 = .ok (.ifCond .ne 12, 3) := by decide +kernel
theorem dX0_rolledDayOf_19 : decode cX0_rolledDayOf 19 = .ok (.iinc 2 1, 3) := by decide +kernel
theorem dX0_rolledDayOf_22 : decode cX0_rolledDayOf 22 = .ok (.iinc 3 1, 3) := by decide +kernel
theorem dX0_rolledDayOf_25 : decode cX0_rolledDayOf 25 = .ok (.goto (-21), 3) := by decide +kernel
theorem dX0_rolledDayOf_28 : decode cX0_rolledDayOf 28 = .ok (.iload_n 2, 1) := by decide +kernel
theorem dX0_rolledDayOf_29 : decode cX0_rolledDayOf 29 = .ok (.ireturn, 1) := by decide +kernel
theorem dX1_init_0 : decode cX1_init 0 = .ok (.aload_n 0, 1) := by decide +kernel
theorem dX1_init_1 : decode cX1_init 1 = .ok (.invokespecial 3, 3) := by decide +kernel
theorem dX1_init_4 : decode cX1_init 4 = .ok (.aload_n 0, 1) := by decide +kernel
theorem dX1_init_5 : decode cX1_init 5 = .ok (.new 9, 3) := by decide +kernel
theorem dX1_init_8 : decode cX1_init 8 = .ok (.dup, 1) := by decide +kernel
theorem dX1_init_9 : decode cX1_init 9 = .ok (.invokespecial 11, 3) := by decide +kernel
theorem dX1_init_12 : decode cX1_init 12 = .ok (.putfield 12, 3) := by decide +kernel
theorem dX1_init_15 : decode cX1_init 15 = .ok (.return_, 1) := by decide +kernel
theorem dX1_count_0 : decode cX1_count 0 = .ok (.aload_n 0, 1) := by decide +kernel
theorem dX1_count_1 : decode cX1_count 1 = .ok (.getfield 12, 3) := by decide +kernel
theorem dX1_count_4 : decode cX1_count 4 = .ok (.invokevirtual 18, 3) := by decide +kernel
theorem dX1_count_7 : decode cX1_count 7 = .ok (.ireturn, 1) := by decide +kernel
theorem dX1_has_0 : decode cX1_has 0 = .ok (.aload_n 0, 1) := by decide +kernel
theorem dX1_has_1 : decode cX1_has 1 = .ok (.iload_n 1, 1) := by decide +kernel
theorem dX1_has_2 : decode cX1_has 2 = .ok (.invokevirtual 22, 3) := by decide +kernel
theorem dX1_has_5 : decode cX1_has 5 = .ok (.ifnull 7, 3) := by decide +kernel
theorem dX1_has_8 : decode cX1_has 8 = .ok (.iconst 1, 1) := by decide +kernel
theorem dX1_has_9 : decode cX1_has 9 = .ok (.goto 4, 3) := by decide +kernel
theorem dX1_has_12 : decode cX1_has 12 = .ok (.iconst 0, 1) := by decide +kernel
theorem dX1_has_13 : decode cX1_has 13 = .ok (.ireturn, 1) := by decide +kernel
theorem dX1_add_0 : decode cX1_add 0 = .ok (.aload_n 0, 1) := by decide +kernel
theorem dX1_add_1 : decode cX1_add 1 = .ok (.getfield 12, 3) := by decide +kernel
theorem dX1_add_4 : decode cX1_add 4 = .ok (.new 26, 3) := by decide +kernel
theorem dX1_add_7 : decode cX1_add 7 = .ok (.dup, 1) := by decide +kernel
theorem dX1_add_8 : decode cX1_add 8 = .ok (.iload_n 1, 1) := by decide +kernel
theorem dX1_add_9 : decode cX1_add 9 = .ok (.iload_n 2, 1) := by decide +kernel
theorem dX1_add_10 : decode cX1_add 10 = .ok (.invokespecial 28, 3) := by decide +kernel
theorem dX1_add_13 : decode cX1_add 13 = .ok (.invokevirtual 31, 3) := by decide +kernel
theorem dX1_add_16 : decode cX1_add 16 = .ok (.pop, 1) := by decide +kernel
theorem dX1_add_17 : decode cX1_add 17 = .ok (.return_, 1) := by decide +kernel
theorem dX1_put_0 : decode cX1_put 0 = .ok (.aload_n 0, 1) := by decide +kernel
theorem dX1_put_1 : decode cX1_put 1 = .ok (.iload_n 1, 1) := by decide +kernel
theorem dX1_put_2 : decode cX1_put 2 = .ok (.invokevirtual 22, 3) := by decide +kernel
theorem dX1_put_5 : decode cX1_put 5 = .ok (.astore_n 3, 1) := by decide +kernel
theorem dX1_put_6 : decode cX1_put 6 = .ok (.aload_n 3, 1) := by decide +kernel
theorem dX1_put_7 : decode cX1_put 7 = .ok (.ifnonnull 12, 3) := by decide +kernel
theorem dX1_put_10 : decode cX1_put 10 = .ok (.aload_n 0, 1) := by decide +kernel
theorem dX1_put_11 : decode cX1_put 11 = .ok (.iload_n 1, 1) := by decide +kernel
theorem dX1_put_12 : decode cX1_put 12 = .ok (.iload_n 2, 1) := by decide +kernel
theorem dX1_put_13 : decode cX1_put 13 = .ok (.invokevirtual 35, 3) := by decide +kernel
theorem dX1_put_16 : decode cX1_put 16 = .ok (.goto 8, 3) := by decide +kernel
theorem dX1_put_19 : decode cX1_put 19 = .ok (.aload_n 3, 1) := by decide +kernel
theorem dX1_put_20 : decode cX1_put 20 = .ok (.iload_n 2, 1) := by decide +kernel
theorem dX1_put_21 : decode cX1_put 21 = .ok (.putfield 37, 3) := by decide +kernel
theorem dX1_put_24 : decode cX1_put 24 = .ok (.return_, 1) := by decide +kernel
theorem dX1_latestValue_0 : decode cX1_latestValue 0 = .ok (.iconst (-1), 1) := by decide +kernel
theorem dX1_latestValue_1 : decode cX1_latestValue 1 = .ok (.istore_n 3, 1) := by decide +kernel
theorem dX1_latestValue_2 : decode cX1_latestValue 2 = .ok (.iload_n 2, 1) := by decide +kernel
theorem dX1_latestValue_3 : decode cX1_latestValue 3 = .ok (.istore 4, 2) := by decide +kernel
theorem dX1_latestValue_5 : decode cX1_latestValue 5 = .ok (.iconst 0, 1) := by decide +kernel
theorem dX1_latestValue_6 : decode cX1_latestValue 6 = .ok (.istore 5, 2) := by decide +kernel
theorem dX1_latestValue_8 : decode cX1_latestValue 8 = .ok (.iload 5, 2) := by decide +kernel
theorem dX1_latestValue_10 : decode cX1_latestValue 10 = .ok (.aload_n 0, 1) := by decide +kernel
theorem dX1_latestValue_11 : decode cX1_latestValue 11 = .ok (.getfield 12, 3) := by decide +kernel
theorem dX1_latestValue_14 : decode cX1_latestValue 14 = .ok (.invokevirtual 18, 3) := by decide +kernel
theorem dX1_latestValue_17 : decode cX1_latestValue 17 = .ok (.if_icmp .ge 54, 3) := by decide +kernel
theorem dX1_latestValue_20 : decode cX1_latestValue 20 = .ok (.aload_n 0, 1) := by decide +kernel
theorem dX1_latestValue_21 : decode cX1_latestValue 21 = .ok (.getfield 12, 3) := by decide +kernel
theorem dX1_latestValue_24 : decode cX1_latestValue 24 = .ok (.iload 5, 2) := by decide +kernel
theorem dX1_latestValue_26 : decode cX1_latestValue 26 = .ok (.invokevirtual 41, 3) := by decide +kernel
theorem dX1_latestValue_29 : decode cX1_latestValue 29 = .ok (.checkcast 26, 3) := by decide +kernel
theorem dX1_latestValue_32 : decode cX1_latestValue 32 = .ok (.astore 6, 2) := by decide +kernel
theorem dX1_latestValue_34 : decode cX1_latestValue 34 = .ok (.aload 6, 2) := by decide +kernel
theorem dX1_latestValue_36 : decode cX1_latestValue 36 = .ok (.getfield 45, 3) := by decide +kernel
theorem dX1_latestValue_39 : decode cX1_latestValue 39 = .ok (.iload_n 1, 1) := by decide +kernel
theorem dX1_latestValue_40 : decode cX1_latestValue 40 = .ok (.if_icmp .gt 25, 3) := by decide +kernel
theorem dX1_latestValue_43 : decode cX1_latestValue 43 = .ok (.aload 6, 2) := by decide +kernel
theorem dX1_latestValue_45 : decode cX1_latestValue 45 = .ok (.getfield 45, 3) := by decide +kernel
theorem dX1_latestValue_48 : decode cX1_latestValue 48 = .ok (.iload_n 3, 1) := by decide +kernel
theorem dX1_latestValue_49 : decode cX1_latestValue 49 = .ok (.if_icmp .lt 16, 3) := by decide +kernel
theorem dX1_latestValue_52 : decode cX1_latestValue 52 = .ok (.aload 6, 2) := by decide +kernel
theorem dX1_latestValue_54 : decode cX1_latestValue 54 = .ok (.getfield 45, 3) := by decide +kernel
theorem dX1_latestValue_57 : decode cX1_latestValue 57 = .ok (.istore_n 3, 1) := by decide +kernel
theorem dX1_latestValue_58 : decode cX1_latestValue 58 = .ok (.aload 6, 2) := by decide +kernel
theorem dX1_latestValue_60 : decode cX1_latestValue 60 = .ok (.getfield 37, 3) := by decide +kernel
theorem dX1_latestValue_63 : decode cX1_latestValue 63 = .ok (.istore 4, 2) := by decide +kernel
theorem dX1_latestValue_65 : decode cX1_latestValue 65 = .ok (.iinc 5 1, 3) := by decide +kernel
theorem dX1_latestValue_68 : decode cX1_latestValue 68 = .ok (.goto (-60), 3) := by decide +kernel
theorem dX1_latestValue_71 : decode cX1_latestValue 71 = .ok (.iload 4, 2) := by decide +kernel
theorem dX1_latestValue_73 : decode cX1_latestValue 73 = .ok (.ireturn, 1) := by decide +kernel
theorem dX1_sumUntil_0 : decode cX1_sumUntil 0 = .ok (.iconst 0, 1) := by decide +kernel
theorem dX1_sumUntil_1 : decode cX1_sumUntil 1 = .ok (.istore_n 2, 1) := by decide +kernel
theorem dX1_sumUntil_2 : decode cX1_sumUntil 2 = .ok (.iconst 0, 1) := by decide +kernel
theorem dX1_sumUntil_3 : decode cX1_sumUntil 3 = .ok (.istore_n 3, 1) := by decide +kernel
theorem dX1_sumUntil_4 : decode cX1_sumUntil 4 = .ok (.iload_n 3, 1) := by decide +kernel
theorem dX1_sumUntil_5 : decode cX1_sumUntil 5 = .ok (.aload_n 0, 1) := by decide +kernel
theorem dX1_sumUntil_6 : decode cX1_sumUntil 6 = .ok (.getfield 12, 3) := by decide +kernel
theorem dX1_sumUntil_9 : decode cX1_sumUntil 9 = .ok (.invokevirtual 18, 3) := by decide +kernel
theorem dX1_sumUntil_12 : decode cX1_sumUntil 12 = .ok (.if_icmp .ge 39, 3) := by decide +kernel
theorem dX1_sumUntil_15 : decode cX1_sumUntil 15 = .ok (.aload_n 0, 1) := by decide +kernel
theorem dX1_sumUntil_16 : decode cX1_sumUntil 16 = .ok (.getfield 12, 3) := by decide +kernel
theorem dX1_sumUntil_19 : decode cX1_sumUntil 19 = .ok (.iload_n 3, 1) := by decide +kernel
theorem dX1_sumUntil_20 : decode cX1_sumUntil 20 = .ok (.invokevirtual 41, 3) := by decide +kernel
theorem dX1_sumUntil_23 : decode cX1_sumUntil 23 = .ok (.checkcast 26, 3) := by decide +kernel
theorem dX1_sumUntil_26 : decode cX1_sumUntil 26 = .ok (.astore 4, 2) := by decide +kernel
theorem dX1_sumUntil_28 : decode cX1_sumUntil 28 = .ok (.aload 4, 2) := by decide +kernel
theorem dX1_sumUntil_30 : decode cX1_sumUntil 30 = .ok (.getfield 45, 3) := by decide +kernel
theorem dX1_sumUntil_33 : decode cX1_sumUntil 33 = .ok (.iload_n 1, 1) := by decide +kernel
theorem dX1_sumUntil_34 : decode cX1_sumUntil 34 = .ok (.if_icmp .gt 11, 3) := by decide +kernel
theorem dX1_sumUntil_37 : decode cX1_sumUntil 37 = .ok (.iload_n 2, 1) := by decide +kernel
theorem dX1_sumUntil_38 : decode cX1_sumUntil 38 = .ok (.aload 4, 2) := by decide +kernel
theorem dX1_sumUntil_40 : decode cX1_sumUntil 40 = .ok (.getfield 37, 3) := by decide +kernel
theorem dX1_sumUntil_43 : decode cX1_sumUntil 43 = .ok (.iadd, 1) := by decide +kernel
theorem dX1_sumUntil_44 : decode cX1_sumUntil 44 = .ok (.istore_n 2, 1) := by decide +kernel
theorem dX1_sumUntil_45 : decode cX1_sumUntil 45 = .ok (.iinc 3 1, 3) := by decide +kernel
theorem dX1_sumUntil_48 : decode cX1_sumUntil 48 = .ok (.goto (-44), 3) := by decide +kernel
theorem dX1_sumUntil_51 : decode cX1_sumUntil 51 = .ok (.iload_n 2, 1) := by decide +kernel
theorem dX1_sumUntil_52 : decode cX1_sumUntil 52 = .ok (.ireturn, 1) := by decide +kernel
theorem dX1_entryOf_0 : decode cX1_entryOf 0 = .ok (.iconst 0, 1) := by decide +kernel
theorem dX1_entryOf_1 : decode cX1_entryOf 1 = .ok (.istore_n 2, 1) := by decide +kernel
theorem dX1_entryOf_2 : decode cX1_entryOf 2 = .ok (.iload_n 2, 1) := by decide +kernel
theorem dX1_entryOf_3 : decode cX1_entryOf 3 = .ok (.aload_n 0, 1) := by decide +kernel
theorem dX1_entryOf_4 : decode cX1_entryOf 4 = .ok (.getfield 12, 3) := by decide +kernel
theorem dX1_entryOf_7 : decode cX1_entryOf 7 = .ok (.invokevirtual 18, 3) := by decide +kernel
theorem dX1_entryOf_10 : decode cX1_entryOf 10 = .ok (.if_icmp .ge 31, 3) := by decide +kernel
theorem dX1_entryOf_13 : decode cX1_entryOf 13 = .ok (.aload_n 0, 1) := by decide +kernel
theorem dX1_entryOf_14 : decode cX1_entryOf 14 = .ok (.getfield 12, 3) := by decide +kernel
theorem dX1_entryOf_17 : decode cX1_entryOf 17 = .ok (.iload_n 2, 1) := by decide +kernel
theorem dX1_entryOf_18 : decode cX1_entryOf 18 = .ok (.invokevirtual 41, 3) := by decide +kernel
theorem dX1_entryOf_21 : decode cX1_entryOf 21 = .ok (.checkcast 26, 3) := by decide +kernel
theorem dX1_entryOf_24 : decode cX1_entryOf 24 = .ok (.astore_n 3, 1) := by decide +kernel
theorem dX1_entryOf_25 : decode cX1_entryOf 25 = .ok (.aload_n 3, 1) := by decide +kernel
theorem dX1_entryOf_26 : decode cX1_entryOf 26 = .ok (.getfield 45, 3) := by decide +kernel
theorem dX1_entryOf_29 : decode cX1_entryOf 29 = .ok (.iload_n 1, 1) := by decide +kernel
theorem dX1_entryOf_30 : decode cX1_entryOf 30 = .ok (.if_icmp .ne 5, 3) := by decide +kernel
theorem dX1_entryOf_33 : decode cX1_entryOf 33 = .ok (.aload_n 3, 1) := by decide +kernel
theorem dX1_entryOf_34 : decode cX1_entryOf 34 = .ok (.areturn, 1) := by decide +kernel
theorem dX1_entryOf_35 : decode cX1_entryOf 35 = .ok (.iinc 2 1, 3) := by decide +kernel
theorem dX1_entryOf_38 : decode cX1_entryOf 38 = .ok (.goto (-36), 3) := by decide +kernel
theorem dX1_entryOf_41 : decode cX1_entryOf 41 = .ok (.aconst_null, 1) := by decide +kernel
theorem dX1_entryOf_42 : decode cX1_entryOf 42 = .ok (.areturn, 1) := by decide +kernel
theorem dX2_init_0 : decode cX2_init 0 = .ok (.aload_n 0, 1) := by decide +kernel
theorem dX2_init_1 : decode cX2_init 1 = .ok (.invokespecial 1, 3) := by decide +kernel
theorem dX2_init_4 : decode cX2_init 4 = .ok (.aload_n 0, 1) := by decide +kernel
theorem dX2_init_5 : decode cX2_init 5 = .ok (.iload_n 1, 1) := by decide +kernel
theorem dX2_init_6 : decode cX2_init 6 = .ok (.putfield 7, 3) := by decide +kernel
theorem dX2_init_9 : decode cX2_init 9 = .ok (.aload_n 0, 1) := by decide +kernel
theorem dX2_init_10 : decode cX2_init 10 = .ok (.iload_n 2, 1) := by decide +kernel
theorem dX2_init_11 : decode cX2_init 11 = .ok (.putfield 13, 3) := by decide +kernel
theorem dX2_init_14 : decode cX2_init 14 = .ok (.return_, 1) := by decide +kernel
theorem dX3_init_0 : decode cX3_init 0 = .ok (.aload_n 0, 1) := by decide +kernel
theorem dX3_init_1 : decode cX3_init 1 = .ok (.invokespecial 3, 3) := by decide +kernel
theorem dX3_init_4 : decode cX3_init 4 = .ok (.aload_n 0, 1) := by decide +kernel
theorem dX3_init_5 : decode cX3_init 5 = .ok (.iload_n 1, 1) := by decide +kernel
theorem dX3_init_6 : decode cX3_init 6 = .ok (.putfield 9, 3) := by decide +kernel
theorem dX3_init_9 : decode cX3_init 9 = .ok (.aload_n 0, 1) := by decide +kernel
theorem dX3_init_10 : decode cX3_init 10 = .ok (.iload_n 2, 1) := by decide +kernel
theorem dX3_init_11 : decode cX3_init 11 = .ok (.putfield 15, 3) := by decide +kernel
theorem dX3_init_14 : decode cX3_init 14 = .ok (.aload_n 0, 1) := by decide +kernel
theorem dX3_init_15 : decode cX3_init 15 = .ok (.iload_n 3, 1) := by decide +kernel
theorem dX3_init_16 : decode cX3_init 16 = .ok (.putfield 18, 3) := by decide +kernel
theorem dX3_init_19 : decode cX3_init 19 = .ok (.aload_n 0, 1) := by decide +kernel
theorem dX3_init_20 : decode cX3_init 20 = .ok (.iload 4, 2) := by decide +kernel
theorem dX3_init_22 : decode cX3_init 22 = .ok (.putfield 22, 3) := by decide +kernel
theorem dX3_init_25 : decode cX3_init 25 = .ok (.aload_n 0, 1) := by decide +kernel
theorem dX3_init_26 : decode cX3_init 26 = .ok (.iload 5, 2) := by decide +kernel
theorem dX3_init_28 : decode cX3_init 28 = .ok (.putfield 25, 3) := by decide +kernel
theorem dX3_init_31 : decode cX3_init 31 = .ok (.aload_n 0, 1) := by decide +kernel
theorem dX3_init_32 : decode cX3_init 32 = .ok (.iload 6, 2) := by decide +kernel
theorem dX3_init_34 : decode cX3_init 34 = .ok (.putfield 28, 3) := by decide +kernel
theorem dX3_init_37 : decode cX3_init 37 = .ok (.aload_n 0, 1) := by decide +kernel
theorem dX3_init_38 : decode cX3_init 38 = .ok (.iload 7, 2) := by decide +kernel
theorem dX3_init_40 : decode cX3_init 40 = .ok (.putfield 31, 3) := by decide +kernel
theorem dX3_init_43 : decode cX3_init 43 = .ok (.aload_n 0, 1) := by decide +kernel
theorem dX3_init_44 : decode cX3_init 44 = .ok (.iconst 0, 1) := by decide +kernel
theorem dX3_init_45 : decode cX3_init 45 = .ok (.putfield 34, 3) := by decide +kernel
theorem dX3_init_48 : decode cX3_init 48 = .ok (.aload_n 0, 1) := by decide +kernel
theorem dX3_init_49 : decode cX3_init 49 = .ok (.iconst 0, 1) := by decide +kernel
theorem dX3_init_50 : decode cX3_init 50 = .ok (.putfield 37, 3) := by decide +kernel
theorem dX3_init_53 : decode cX3_init 53 = .ok (.aload_n 0, 1) := by decide +kernel
theorem dX3_init_54 : decode cX3_init 54 = .ok (.iconst 0, 1) := by decide +kernel
theorem dX3_init_55 : decode cX3_init 55 = .ok (.putfield 40, 3) := by decide +kernel
theorem dX3_init_58 : decode cX3_init 58 = .ok (.aload_n 0, 1) := by decide +kernel
theorem dX3_init_59 : decode cX3_init 59 = .ok (.new 43, 3) := by decide +kernel
theorem dX3_init_62 : decode cX3_init 62 = .ok (.dup, 1) := by decide +kernel
theorem dX3_init_63 : decode cX3_init 63 = .ok (.invokespecial 45, 3) := by decide +kernel
theorem dX3_init_66 : decode cX3_init 66 = .ok (.putfield 46, 3) := by decide +kernel
theorem dX3_init_69 : decode cX3_init 69 = .ok (.aload_n 0, 1) := by decide +kernel
theorem dX3_init_70 : decode cX3_init 70 = .ok (.new 43, 3) := by decide +kernel
theorem dX3_init_73 : decode cX3_init 73 = .ok (.dup, 1) := by decide +kernel
theorem dX3_init_74 : decode cX3_init 74 = .ok (.invokespecial 45, 3) := by decide +kernel
theorem dX3_init_77 : decode cX3_init 77 = .ok (.putfield 50, 3) := by decide +kernel
theorem dX3_init_80 : decode cX3_init 80 = .ok (.aload_n 0, 1) := by decide +kernel
theorem dX3_init_81 : decode cX3_init 81 = .ok (.bipush 11, 2) := by decide +kernel
theorem dX3_init_83 : decode cX3_init 83 = .ok (.newarray .int, 2) := by decide +kernel
theorem dX3_init_85 : decode cX3_init 85 = .ok (.putfield 53, 3) := by decide +kernel
theorem dX3_init_88 : decode cX3_init 88 = .ok (.return_, 1) := by decide +kernel
theorem dX3_rollDays_0 : decode cX3_rollDays 0 = .ok (.iconst 0, 1) := by decide +kernel
theorem dX3_rollDays_1 : decode cX3_rollDays 1 = .ok (.istore_n 2, 1) := by decide +kernel
theorem dX3_rollDays_2 : decode cX3_rollDays 2 = .ok (.iload_n 2, 1) := by decide +kernel
theorem dX3_rollDays_3 : decode cX3_rollDays 3 = .ok (.aload_n 0, 1) := by decide +kernel
theorem dX3_rollDays_4 : decode cX3_rollDays 4 = .ok (.getfield 31, 3) := by decide +kernel
theorem dX3_rollDays_7 : decode cX3_rollDays 7 = .ok (.if_icmp .gt 39, 3) := by decide +kernel
theorem dX3_rollDays_10 : decode cX3_rollDays 10 = .ok (.iload_n 2, 1) := by decide +kernel
theorem dX3_rollDays_11 : decode cX3_rollDays 11 = .ok (.aload_n 0, 1) := by decide +kernel
theorem dX3_rollDays_12 : decode cX3_rollDays 12 = .ok (.getfield 53, 3) := by decide +kernel
theorem dX3_rollDays_15 : decode cX3_rollDays 15 = .ok (.arraylength, 1) := by decide +kernel
theorem dX3_rollDays_16 : decode cX3_rollDays 16 = .ok (.if_icmp .ge 30, 3) := by decide +kernel
theorem dX3_rollDays_19 : decode cX3_rollDays 19 = .ok (.aload_n 0, 1) := by decide +kernel
theorem dX3_rollDays_20 : decode cX3_rollDays 20 = .ok (.getfield 53, 3) := by decide +kernel
theorem dX3_rollDays_23 : decode cX3_rollDays 23 = .ok (.iload_n 2, 1) := by decide +kernel
theorem dX3_rollDays_24 : decode cX3_rollDays 24 = .ok (.aload_n 1, 1) := by decide +kernel
theorem dX3_rollDays_25 : decode cX3_rollDays 25 = .ok (.aload_n 0, 1) := by decide +kernel
theorem dX3_rollDays_26 : decode cX3_rollDays 26 = .ok (.getfield 25, 3) := by decide +kernel
theorem dX3_rollDays_29 : decode cX3_rollDays 29 = .ok (.iload_n 2, 1) := by decide +kernel
theorem dX3_rollDays_30 : decode cX3_rollDays 30 = .ok (.aload_n 0, 1) := by decide +kernel
theorem dX3_rollDays_31 : decode cX3_rollDays 31 = .ok (.getfield 28, 3) := by decide +kernel
theorem dX3_rollDays_34 : decode cX3_rollDays 34 = .ok (.imul, 1) := by decide +kernel
theorem dX3_rollDays_35 : decode cX3_rollDays 35 = .ok (.iadd, 1) := by decide +kernel
theorem dX3_rollDays_36 : decode cX3_rollDays 36 = .ok (.invokevirtual 57, 3) := by decide +kernel
theorem dX3_rollDays_39 : decode cX3_rollDays 39 = .ok (.iastore, 1) := by decide +kernel
theorem dX3_rollDays_40 : decode cX3_rollDays 40 = .ok (.iinc 2 1, 3) := by decide +kernel
theorem dX3_rollDays_43 : decode cX3_rollDays 43 = .ok (.goto (-41), 3) := by decide +kernel
theorem dX3_rollDays_46 : decode cX3_rollDays 46 = .ok (.return_, 1) := by decide +kernel
theorem dX3_startOf_0 : decode cX3_startOf 0 = .ok (.iload_n 1, 1) := by decide +kernel
theorem dX3_startOf_1 : decode cX3_startOf 1 = .ok (.ifCond .lt 21, 3) := by decide +kernel
theorem dX3_startOf_4 : decode cX3_startOf 4 = .ok (.iload_n 1, 1) := by decide +kernel
theorem dX3_startOf_5 : decode cX3_startOf 5 = .ok (.aload_n 0, 1) := by decide +kernel
theorem dX3_startOf_6 : decode cX3_startOf 6 = .ok (.getfield 53, 3) := by decide +kernel
theorem dX3_startOf_9 : decode cX3_startOf 9 = .ok (.arraylength, 1) := by decide +kernel
theorem dX3_startOf_10 : decode cX3_startOf 10 = .ok (.if_icmp .ge 12, 3) := by decide +kernel
theorem dX3_startOf_13 : decode cX3_startOf 13 = .ok (.aload_n 0, 1) := by decide +kernel
theorem dX3_startOf_14 : decode cX3_startOf 14 = .ok (.getfield 53, 3) := by decide +kernel
theorem dX3_startOf_17 : decode cX3_startOf 17 = .ok (.iload_n 1, 1) := by decide +kernel
theorem dX3_startOf_18 : decode cX3_startOf 18 = .ok (.iaload, 1) := by decide +kernel
theorem dX3_startOf_19 : decode cX3_startOf 19 = .ok (.goto 4, 3) := by decide +kernel
theorem dX3_startOf_22 : decode cX3_startOf 22 = .ok (.iconst (-1), 1) := by decide +kernel
theorem dX3_startOf_23 : decode cX3_startOf 23 = .ok (.ireturn, 1) := by decide +kernel
theorem dX3_endOf_0 : decode cX3_endOf 0 = .ok (.aload_n 0, 1) := by decide +kernel
theorem dX3_endOf_1 : decode cX3_endOf 1 = .ok (.iload_n 1, 1) := by decide +kernel
theorem dX3_endOf_2 : decode cX3_endOf 2 = .ok (.iconst 1, 1) := by decide +kernel
theorem dX3_endOf_3 : decode cX3_endOf 3 = .ok (.iadd, 1) := by decide +kernel
theorem dX3_endOf_4 : decode cX3_endOf 4 = .ok (.invokevirtual 63, 3) := by decide +kernel
theorem dX3_endOf_7 : decode cX3_endOf 7 = .ok (.ireturn, 1) := by decide +kernel
theorem dX3_lotsOf_0 : decode cX3_lotsOf 0 = .ok (.aload_n 0, 1) := by decide +kernel
theorem dX3_lotsOf_1 : decode cX3_lotsOf 1 = .ok (.getfield 15, 3) := by decide +kernel
theorem dX3_lotsOf_4 : decode cX3_lotsOf 4 = .ok (.aload_n 0, 1) := by decide +kernel
theorem dX3_lotsOf_5 : decode cX3_lotsOf 5 = .ok (.getfield 46, 3) := by decide +kernel
theorem dX3_lotsOf_8 : decode cX3_lotsOf 8 = .ok (.aload_n 0, 1) := by decide +kernel
theorem dX3_lotsOf_9 : decode cX3_lotsOf 9 = .ok (.iload_n 1, 1) := by decide +kernel
theorem dX3_lotsOf_10 : decode cX3_lotsOf 10 = .ok (.invokevirtual 63, 3) := by decide +kernel
theorem dX3_lotsOf_13 : decode cX3_lotsOf 13 = .ok (.invokevirtual 66, 3) := by decide +kernel
theorem dX3_lotsOf_16 : decode cX3_lotsOf 16 = .ok (.isub, 1) := by decide +kernel
theorem dX3_lotsOf_17 : decode cX3_lotsOf 17 = .ok (.ireturn, 1) := by decide +kernel
theorem dX3_restOfLots_0 : decode cX3_restOfLots 0 = .ok (.aload_n 0, 1) := by decide +kernel
theorem dX3_restOfLots_1 : decode cX3_restOfLots 1 = .ok (.getfield 15, 3) := by decide +kernel
theorem dX3_restOfLots_4 : decode cX3_restOfLots 4 = .ok (.aload_n 0, 1) := by decide +kernel
theorem dX3_restOfLots_5 : decode cX3_restOfLots 5 = .ok (.getfield 46, 3) := by decide +kernel
theorem dX3_restOfLots_8 : decode cX3_restOfLots 8 = .ok (.sipush 3000, 3) := by decide +kernel
theorem dX3_restOfLots_11 : decode cX3_restOfLots 11 = .ok (.invokevirtual 66, 3) := by decide +kernel
theorem dX3_restOfLots_14 : decode cX3_restOfLots 14 = .ok (.isub, 1) := by decide +kernel
theorem dX3_restOfLots_15 : decode cX3_restOfLots 15 = .ok (.ireturn, 1) := by decide +kernel
theorem dX3_holderOn_0 : decode cX3_holderOn 0 = .ok (.aload_n 0, 1) := by decide +kernel
theorem dX3_holderOn_1 : decode cX3_holderOn 1 = .ok (.getfield 50, 3) := by decide +kernel
theorem dX3_holderOn_4 : decode cX3_holderOn 4 = .ok (.iload_n 1, 1) := by decide +kernel
theorem dX3_holderOn_5 : decode cX3_holderOn 5 = .ok (.aload_n 0, 1) := by decide +kernel
theorem dX3_holderOn_6 : decode cX3_holderOn 6 = .ok (.getfield 9, 3) := by decide +kernel
theorem dX3_holderOn_9 : decode cX3_holderOn 9 = .ok (.invokevirtual 69, 3) := by decide +kernel
theorem dX3_holderOn_12 : decode cX3_holderOn 12 = .ok (.ireturn, 1) := by decide +kernel
theorem dX3_floatingOf_0 : decode cX3_floatingOf 0 = .ok (.aload_n 0, 1) := by decide +kernel
theorem dX3_floatingOf_1 : decode cX3_floatingOf 1 = .ok (.getfield 40, 3) := by decide +kernel
theorem dX3_floatingOf_4 : decode cX3_floatingOf 4 = .ok (.ifCond .ne 22, 3) := by decide +kernel
theorem dX3_floatingOf_7 : decode cX3_floatingOf 7 = .ok (.aload_n 0, 1) := by decide +kernel
theorem dX3_floatingOf_8 : decode cX3_floatingOf 8 = .ok (.iload_n 1, 1) := by decide +kernel
theorem dX3_floatingOf_9 : decode cX3_floatingOf 9 = .ok (.aload_n 2, 1) := by decide +kernel
theorem dX3_floatingOf_10 : decode cX3_floatingOf 10 = .ok (.invokevirtual 73, 3) := by decide +kernel
theorem dX3_floatingOf_13 : decode cX3_floatingOf 13 = .ok (.aload_n 0, 1) := by decide +kernel
theorem dX3_floatingOf_14 : decode cX3_floatingOf 14 = .ok (.getfield 34, 3) := by decide +kernel
theorem dX3_floatingOf_17 : decode cX3_floatingOf 17 = .ok (.i2l, 1) := by decide +kernel
theorem dX3_floatingOf_18 : decode cX3_floatingOf 18 = .ok (.ladd, 1) := by decide +kernel
theorem dX3_floatingOf_19 : decode cX3_floatingOf 19 = .ok (.aload_n 0, 1) := by decide +kernel
theorem dX3_floatingOf_20 : decode cX3_floatingOf 20 = .ok (.iload_n 1, 1) := by decide +kernel
theorem dX3_floatingOf_21 : decode cX3_floatingOf 21 = .ok (.invokevirtual 77, 3) := by decide +kernel
theorem dX3_floatingOf_24 : decode cX3_floatingOf 24 = .ok (.lmul, 1) := by decide +kernel
theorem dX3_floatingOf_25 : decode cX3_floatingOf 25 = .ok (.lreturn, 1) := by decide +kernel
theorem dX3_floatingOf_26 : decode cX3_floatingOf 26 = .ok (.aload_n 0, 1) := by decide +kernel
theorem dX3_floatingOf_27 : decode cX3_floatingOf 27 = .ok (.getfield 40, 3) := by decide +kernel
theorem dX3_floatingOf_30 : decode cX3_floatingOf 30 = .ok (.iconst 1, 1) := by decide +kernel
theorem dX3_floatingOf_31 : decode cX3_floatingOf 31 = .ok (.if_icmp .ne 10, 3) := by decide +kernel
theorem dX3_floatingOf_34 : decode cX3_floatingOf 34 = .ok (.aload_n 0, 1) := by decide +kernel
theorem dX3_floatingOf_35 : decode cX3_floatingOf 35 = .ok (.getfield 34, 3) := by decide +kernel
theorem dX3_floatingOf_38 : decode cX3_floatingOf 38 = .ok (.goto 4, 3) := by decide +kernel
theorem dX3_floatingOf_41 : decode cX3_floatingOf 41 = .ok (.iconst 0, 1) := by decide +kernel
theorem dX3_floatingOf_42 : decode cX3_floatingOf 42 = .ok (.istore_n 3, 1) := by decide +kernel
theorem dX3_floatingOf_43 : decode cX3_floatingOf 43 = .ok (.aload_n 0, 1) := by decide +kernel
theorem dX3_floatingOf_44 : decode cX3_floatingOf 44 = .ok (.getfield 34, 3) := by decide +kernel
theorem dX3_floatingOf_47 : decode cX3_floatingOf 47 = .ok (.iload_n 3, 1) := by decide +kernel
theorem dX3_floatingOf_48 : decode cX3_floatingOf 48 = .ok (.isub, 1) := by decide +kernel
theorem dX3_floatingOf_49 : decode cX3_floatingOf 49 = .ok (.istore 4, 2) := by decide +kernel
theorem dX3_floatingOf_51 : decode cX3_floatingOf 51 = .ok (.lconst 0, 1) := by decide +kernel
theorem dX3_floatingOf_52 : decode cX3_floatingOf 52 = .ok (.lstore 5, 2) := by decide +kernel
theorem dX3_floatingOf_54 : decode cX3_floatingOf 54 = .ok (.lconst 0, 1) := by decide +kernel
theorem dX3_floatingOf_55 : decode cX3_floatingOf 55 = .ok (.lstore 7, 2) := by decide +kernel
theorem dX3_floatingOf_57 : decode cX3_floatingOf 57 = .ok (.iconst 0, 1) := by decide +kernel
theorem dX3_floatingOf_58 : decode cX3_floatingOf 58 = .ok (.istore 9, 2) := by decide +kernel
theorem dX3_floatingOf_60 : decode cX3_floatingOf 60 = .ok (.iload 9, 2) := by decide +kernel
theorem dX3_floatingOf_62 : decode cX3_floatingOf 62 = .ok (.iload_n 1, 1) := by decide +kernel
theorem dX3_floatingOf_63 : decode cX3_floatingOf 63 = .ok (.if_icmp .gt 61, 3) := by decide +kernel
theorem dX3_floatingOf_66 : decode cX3_floatingOf 66 = .ok (.iload 9, 2) := by decide +kernel
theorem dX3_floatingOf_68 : decode cX3_floatingOf 68 = .ok (.aload_n 0, 1) := by decide +kernel
theorem dX3_floatingOf_69 : decode cX3_floatingOf 69 = .ok (.getfield 31, 3) := by decide +kernel
theorem dX3_floatingOf_72 : decode cX3_floatingOf 72 = .ok (.if_icmp .ge 52, 3) := by decide +kernel
theorem dX3_floatingOf_75 : decode cX3_floatingOf 75 = .ok (.aload_n 0, 1) := by decide +kernel
theorem dX3_floatingOf_76 : decode cX3_floatingOf 76 = .ok (.iload 9, 2) := by decide +kernel
theorem dX3_floatingOf_78 : decode cX3_floatingOf 78 = .ok (.aload_n 2, 1) := by decide +kernel
theorem dX3_floatingOf_79 : decode cX3_floatingOf 79 = .ok (.invokevirtual 73, 3) := by decide +kernel
theorem dX3_floatingOf_82 : decode cX3_floatingOf 82 = .ok (.iload_n 3, 1) := by decide +kernel
theorem dX3_floatingOf_83 : decode cX3_floatingOf 83 = .ok (.i2l, 1) := by decide +kernel
theorem dX3_floatingOf_84 : decode cX3_floatingOf 84 = .ok (.ladd, 1) := by decide +kernel
theorem dX3_floatingOf_85 : decode cX3_floatingOf 85 = .ok (.lstore 10, 2) := by decide +kernel
theorem dX3_floatingOf_87 : decode cX3_floatingOf 87 = .ok (.ldc2_w 81, 3) := by decide +kernel
theorem dX3_floatingOf_90 : decode cX3_floatingOf 90 = .ok (.lload 5, 2) := by decide +kernel
theorem dX3_floatingOf_92 : decode cX3_floatingOf 92 = .ok (.ladd, 1) := by decide +kernel
theorem dX3_floatingOf_93 : decode cX3_floatingOf 93 = .ok (.lload 10, 2) := by decide +kernel
theorem dX3_floatingOf_95 : decode cX3_floatingOf 95 = .ok (.lmul, 1) := by decide +kernel
theorem dX3_floatingOf_96 : decode cX3_floatingOf 96 = .ok (.aload_n 0, 1) := by decide +kernel
theorem dX3_floatingOf_97 : decode cX3_floatingOf 97 = .ok (.iload 9, 2) := by decide +kernel
theorem dX3_floatingOf_99 : decode cX3_floatingOf 99 = .ok (.invokevirtual 77, 3) := by decide +kernel
theorem dX3_floatingOf_102 : decode cX3_floatingOf 102 = .ok (.lmul, 1) := by decide +kernel
theorem dX3_floatingOf_103 : decode cX3_floatingOf 103 = .ok (.ldc2_w 81, 3) := by decide +kernel
theorem dX3_floatingOf_106 : decode cX3_floatingOf 106 = .ok (.invokestatic 83, 3) := by decide +kernel
theorem dX3_floatingOf_109 : decode cX3_floatingOf 109 = .ok (.lstore 7, 2) := by decide +kernel
theorem dX3_floatingOf_111 : decode cX3_floatingOf 111 = .ok (.lload 5, 2) := by decide +kernel
theorem dX3_floatingOf_113 : decode cX3_floatingOf 113 = .ok (.lload 7, 2) := by decide +kernel
theorem dX3_floatingOf_115 : decode cX3_floatingOf 115 = .ok (.ladd, 1) := by decide +kernel
theorem dX3_floatingOf_116 : decode cX3_floatingOf 116 = .ok (.lstore 5, 2) := by decide +kernel
theorem dX3_floatingOf_118 : decode cX3_floatingOf 118 = .ok (.iinc 9 1, 3) := by decide +kernel
theorem dX3_floatingOf_121 : decode cX3_floatingOf 121 = .ok (.goto (-61), 3) := by decide +kernel
theorem dX3_floatingOf_124 : decode cX3_floatingOf 124 = .ok (.lload 7, 2) := by decide +kernel
theorem dX3_floatingOf_126 : decode cX3_floatingOf 126 = .ok (.iload 4, 2) := by decide +kernel
theorem dX3_floatingOf_128 : decode cX3_floatingOf 128 = .ok (.i2l, 1) := by decide +kernel
theorem dX3_floatingOf_129 : decode cX3_floatingOf 129 = .ok (.aload_n 0, 1) := by decide +kernel
theorem dX3_floatingOf_130 : decode cX3_floatingOf 130 = .ok (.iload_n 1, 1) := by decide +kernel
theorem dX3_floatingOf_131 : decode cX3_floatingOf 131 = .ok (.invokevirtual 77, 3) := by decide +kernel
theorem dX3_floatingOf_134 : decode cX3_floatingOf 134 = .ok (.lmul, 1) := by decide +kernel
theorem dX3_floatingOf_135 : decode cX3_floatingOf 135 = .ok (.ladd, 1) := by decide +kernel
theorem dX3_floatingOf_136 : decode cX3_floatingOf 136 = .ok (.lreturn, 1) := by decide +kernel
theorem dX3_flowOf_0 : decode cX3_flowOf 0 = .ok (.aload_n 0, 1) := by decide +kernel
theorem dX3_flowOf_1 : decode cX3_flowOf 1 = .ok (.iload_n 1, 1) := by decide +kernel
theorem dX3_flowOf_2 : decode cX3_flowOf 2 = .ok (.aload_n 2, 1) := by decide +kernel
theorem dX3_flowOf_3 : decode cX3_flowOf 3 = .ok (.invokevirtual 89, 3) := by decide +kernel
theorem dX3_flowOf_6 : decode cX3_flowOf 6 = .ok (.aload_n 0, 1) := by decide +kernel
theorem dX3_flowOf_7 : decode cX3_flowOf 7 = .ok (.getfield 22, 3) := by decide +kernel
theorem dX3_flowOf_10 : decode cX3_flowOf 10 = .ok (.i2l, 1) := by decide +kernel
theorem dX3_flowOf_11 : decode cX3_flowOf 11 = .ok (.aload_n 0, 1) := by decide +kernel
theorem dX3_flowOf_12 : decode cX3_flowOf 12 = .ok (.iload_n 1, 1) := by decide +kernel
theorem dX3_flowOf_13 : decode cX3_flowOf 13 = .ok (.invokevirtual 77, 3) := by decide +kernel
theorem dX3_flowOf_16 : decode cX3_flowOf 16 = .ok (.lmul, 1) := by decide +kernel
theorem dX3_flowOf_17 : decode cX3_flowOf 17 = .ok (.lsub, 1) := by decide +kernel
theorem dX3_flowOf_18 : decode cX3_flowOf 18 = .ok (.lstore_n 3, 1) := by decide +kernel
theorem dX3_flowOf_19 : decode cX3_flowOf 19 = .ok (.aload_n 0, 1) := by decide +kernel
theorem dX3_flowOf_20 : decode cX3_flowOf 20 = .ok (.iload_n 1, 1) := by decide +kernel
theorem dX3_flowOf_21 : decode cX3_flowOf 21 = .ok (.invokevirtual 92, 3) := by decide +kernel
theorem dX3_flowOf_24 : decode cX3_flowOf 24 = .ok (.i2l, 1) := by decide +kernel
theorem dX3_flowOf_25 : decode cX3_flowOf 25 = .ok (.aload_n 0, 1) := by decide +kernel
theorem dX3_flowOf_26 : decode cX3_flowOf 26 = .ok (.getfield 18, 3) := by decide +kernel
theorem dX3_flowOf_29 : decode cX3_flowOf 29 = .ok (.ifCond .eq 7, 3) := by decide +kernel
theorem dX3_flowOf_32 : decode cX3_flowOf 32 = .ok (.lload_n 3, 1) := by decide +kernel
theorem dX3_flowOf_33 : decode cX3_flowOf 33 = .ok (.goto 5, 3) := by decide +kernel
theorem dX3_flowOf_36 : decode cX3_flowOf 36 = .ok (.lload_n 3, 1) := by decide +kernel
theorem dX3_flowOf_37 : decode cX3_flowOf 37 = .ok (.lneg, 1) := by decide +kernel
theorem dX3_flowOf_38 : decode cX3_flowOf 38 = .ok (.lmul, 1) := by decide +kernel
theorem dX3_flowOf_39 : decode cX3_flowOf 39 = .ok (.lreturn, 1) := by decide +kernel
theorem dX3_cashOf_0 : decode cX3_cashOf 0 = .ok (.lconst 0, 1) := by decide +kernel
theorem dX3_cashOf_1 : decode cX3_cashOf 1 = .ok (.lstore 5, 2) := by decide +kernel
theorem dX3_cashOf_3 : decode cX3_cashOf 3 = .ok (.iconst 0, 1) := by decide +kernel
theorem dX3_cashOf_4 : decode cX3_cashOf 4 = .ok (.istore 7, 2) := by decide +kernel
theorem dX3_cashOf_6 : decode cX3_cashOf 6 = .ok (.iload 7, 2) := by decide +kernel
theorem dX3_cashOf_8 : decode cX3_cashOf 8 = .ok (.aload_n 0, 1) := by decide +kernel
theorem dX3_cashOf_9 : decode cX3_cashOf 9 = .ok (.getfield 31, 3) := by decide +kernel
theorem dX3_cashOf_12 : decode cX3_cashOf 12 = .ok (.if_icmp .ge 52, 3) := by decide +kernel
theorem dX3_cashOf_15 : decode cX3_cashOf 15 = .ok (.aload_n 0, 1) := by decide +kernel
theorem dX3_cashOf_16 : decode cX3_cashOf 16 = .ok (.iload 7, 2) := by decide +kernel
theorem dX3_cashOf_18 : decode cX3_cashOf 18 = .ok (.invokevirtual 95, 3) := by decide +kernel
theorem dX3_cashOf_21 : decode cX3_cashOf 21 = .ok (.istore 8, 2) := by decide +kernel
theorem dX3_cashOf_23 : decode cX3_cashOf 23 = .ok (.iload 8, 2) := by decide +kernel
theorem dX3_cashOf_25 : decode cX3_cashOf 25 = .ok (.iload_n 2, 1) := by decide +kernel
theorem dX3_cashOf_26 : decode cX3_cashOf 26 = .ok (.if_icmp .lt 32, 3) := by decide +kernel
theorem dX3_cashOf_29 : decode cX3_cashOf 29 = .ok (.iload 8, 2) := by decide +kernel
theorem dX3_cashOf_31 : decode cX3_cashOf 31 = .ok (.iload_n 3, 1) := by decide +kernel
theorem dX3_cashOf_32 : decode cX3_cashOf 32 = .ok (.if_icmp .gt 26, 3) := by decide +kernel
theorem dX3_cashOf_35 : decode cX3_cashOf 35 = .ok (.aload_n 0, 1) := by decide +kernel
theorem dX3_cashOf_36 : decode cX3_cashOf 36 = .ok (.iload 8, 2) := by decide +kernel
theorem dX3_cashOf_38 : decode cX3_cashOf 38 = .ok (.invokevirtual 98, 3) := by decide +kernel
theorem dX3_cashOf_41 : decode cX3_cashOf 41 = .ok (.iload_n 1, 1) := by decide +kernel
theorem dX3_cashOf_42 : decode cX3_cashOf 42 = .ok (.if_icmp .ne 16, 3) := by decide +kernel
theorem dX3_cashOf_45 : decode cX3_cashOf 45 = .ok (.lload 5, 2) := by decide +kernel
theorem dX3_cashOf_47 : decode cX3_cashOf 47 = .ok (.aload_n 0, 1) := by decide +kernel
theorem dX3_cashOf_48 : decode cX3_cashOf 48 = .ok (.iload 7, 2) := by decide +kernel
theorem dX3_cashOf_50 : decode cX3_cashOf 50 = .ok (.aload 4, 2) := by decide +kernel
theorem dX3_cashOf_52 : decode cX3_cashOf 52 = .ok (.invokevirtual 101, 3) := by decide +kernel
theorem dX3_cashOf_55 : decode cX3_cashOf 55 = .ok (.ladd, 1) := by decide +kernel
theorem dX3_cashOf_56 : decode cX3_cashOf 56 = .ok (.lstore 5, 2) := by decide +kernel
theorem dX3_cashOf_58 : decode cX3_cashOf 58 = .ok (.iinc 7 1, 3) := by decide +kernel
theorem dX3_cashOf_61 : decode cX3_cashOf 61 = .ok (.goto (-55), 3) := by decide +kernel
theorem dX3_cashOf_64 : decode cX3_cashOf 64 = .ok (.lload 5, 2) := by decide +kernel
theorem dX3_cashOf_66 : decode cX3_cashOf 66 = .ok (.lreturn, 1) := by decide +kernel
theorem dX3_nextPayDay_0 : decode cX3_nextPayDay 0 = .ok (.iconst 0, 1) := by decide +kernel
theorem dX3_nextPayDay_1 : decode cX3_nextPayDay 1 = .ok (.istore_n 3, 1) := by decide +kernel
theorem dX3_nextPayDay_2 : decode cX3_nextPayDay 2 = .ok (.iload_n 3, 1) := by decide +kernel
theorem dX3_nextPayDay_3 : decode cX3_nextPayDay 3 = .ok (.aload_n 0, 1) := by decide +kernel
theorem dX3_nextPayDay_4 : decode cX3_nextPayDay 4 = .ok (.getfield 31, 3) := by decide +kernel
theorem dX3_nextPayDay_7 : decode cX3_nextPayDay 7 = .ok (.if_icmp .ge 35, 3) := by decide +kernel
theorem dX3_nextPayDay_10 : decode cX3_nextPayDay 10 = .ok (.aload_n 0, 1) := by decide +kernel
theorem dX3_nextPayDay_11 : decode cX3_nextPayDay 11 = .ok (.iload_n 3, 1) := by decide +kernel
theorem dX3_nextPayDay_12 : decode cX3_nextPayDay 12 = .ok (.invokevirtual 95, 3) := by decide +kernel
theorem dX3_nextPayDay_15 : decode cX3_nextPayDay 15 = .ok (.istore 4, 2) := by decide +kernel
theorem dX3_nextPayDay_17 : decode cX3_nextPayDay 17 = .ok (.iload 4, 2) := by decide +kernel
theorem dX3_nextPayDay_19 : decode cX3_nextPayDay 19 = .ok (.iload_n 2, 1) := by decide +kernel
theorem dX3_nextPayDay_20 : decode cX3_nextPayDay 20 = .ok (.if_icmp .lt 16, 3) := by decide +kernel
theorem dX3_nextPayDay_23 : decode cX3_nextPayDay 23 = .ok (.aload_n 0, 1) := by decide +kernel
theorem dX3_nextPayDay_24 : decode cX3_nextPayDay 24 = .ok (.iload 4, 2) := by decide +kernel
theorem dX3_nextPayDay_26 : decode cX3_nextPayDay 26 = .ok (.invokevirtual 98, 3) := by decide +kernel
theorem dX3_nextPayDay_29 : decode cX3_nextPayDay 29 = .ok (.iload_n 1, 1) := by decide +kernel
theorem dX3_nextPayDay_30 : decode cX3_nextPayDay 30 = .ok (.if_icmp .ne 6, 3) := by decide +kernel
theorem dX3_nextPayDay_33 : decode cX3_nextPayDay 33 = .ok (.iload 4, 2) := by decide +kernel
theorem dX3_nextPayDay_35 : decode cX3_nextPayDay 35 = .ok (.ireturn, 1) := by decide +kernel
theorem dX3_nextPayDay_36 : decode cX3_nextPayDay 36 = .ok (.iinc 3 1, 3) := by decide +kernel
theorem dX3_nextPayDay_39 : decode cX3_nextPayDay 39 = .ok (.goto (-37), 3) := by decide +kernel
theorem dX3_nextPayDay_42 : decode cX3_nextPayDay 42 = .ok (.iconst (-1), 1) := by decide +kernel
theorem dX3_nextPayDay_43 : decode cX3_nextPayDay 43 = .ok (.ireturn, 1) := by decide +kernel
theorem dX3_fits_0 : decode cX3_fits 0 = .ok (.aload_n 0, 1) := by decide +kernel
theorem dX3_fits_1 : decode cX3_fits 1 = .ok (.getfield 18, 3) := by decide +kernel
theorem dX3_fits_4 : decode cX3_fits 4 = .ok (.aload_n 1, 1) := by decide +kernel
theorem dX3_fits_5 : decode cX3_fits 5 = .ok (.getfield 18, 3) := by decide +kernel
theorem dX3_fits_8 : decode cX3_fits 8 = .ok (.if_icmp .eq 84, 3) := by decide +kernel
theorem dX3_fits_11 : decode cX3_fits 11 = .ok (.aload_n 0, 1) := by decide +kernel
theorem dX3_fits_12 : decode cX3_fits 12 = .ok (.getfield 22, 3) := by decide +kernel
theorem dX3_fits_15 : decode cX3_fits 15 = .ok (.aload_n 1, 1) := by decide +kernel
theorem dX3_fits_16 : decode cX3_fits 16 = .ok (.getfield 22, 3) := by decide +kernel
theorem dX3_fits_19 : decode cX3_fits 19 = .ok (.if_icmp .ne 73, 3) := by decide +kernel
theorem dX3_fits_22 : decode cX3_fits 22 = .ok (.aload_n 0, 1) := by decide +kernel
theorem dX3_fits_23 : decode cX3_fits 23 = .ok (.getfield 34, 3) := by decide +kernel
theorem dX3_fits_26 : decode cX3_fits 26 = .ok (.aload_n 1, 1) := by decide +kernel
theorem dX3_fits_27 : decode cX3_fits 27 = .ok (.getfield 34, 3) := by decide +kernel
theorem dX3_fits_30 : decode cX3_fits 30 = .ok (.if_icmp .ne 62, 3) := by decide +kernel
theorem dX3_fits_33 : decode cX3_fits 33 = .ok (.aload_n 0, 1) := by decide +kernel
theorem dX3_fits_34 : decode cX3_fits 34 = .ok (.getfield 25, 3) := by decide +kernel
theorem dX3_fits_37 : decode cX3_fits 37 = .ok (.aload_n 1, 1) := by decide +kernel
theorem dX3_fits_38 : decode cX3_fits 38 = .ok (.getfield 25, 3) := by decide +kernel
theorem dX3_fits_41 : decode cX3_fits 41 = .ok (.if_icmp .ne 51, 3) := by decide +kernel
theorem dX3_fits_44 : decode cX3_fits 44 = .ok (.aload_n 0, 1) := by decide +kernel
theorem dX3_fits_45 : decode cX3_fits 45 = .ok (.getfield 28, 3) := by decide +kernel
theorem dX3_fits_48 : decode cX3_fits 48 = .ok (.aload_n 1, 1) := by decide +kernel
theorem dX3_fits_49 : decode cX3_fits 49 = .ok (.getfield 28, 3) := by decide +kernel
theorem dX3_fits_52 : decode cX3_fits 52 = .ok (.if_icmp .ne 40, 3) := by decide +kernel
theorem dX3_fits_55 : decode cX3_fits 55 = .ok (.aload_n 0, 1) := by decide +kernel
theorem dX3_fits_56 : decode cX3_fits 56 = .ok (.getfield 31, 3) := by decide +kernel
theorem dX3_fits_59 : decode cX3_fits 59 = .ok (.aload_n 1, 1) := by decide +kernel
theorem dX3_fits_60 : decode cX3_fits 60 = .ok (.getfield 31, 3) := by decide +kernel
theorem dX3_fits_63 : decode cX3_fits 63 = .ok (.if_icmp .ne 29, 3) := by decide +kernel
theorem dX3_fits_66 : decode cX3_fits 66 = .ok (.aload_n 0, 1) := by decide +kernel
theorem dX3_fits_67 : decode cX3_fits 67 = .ok (.getfield 37, 3) := by decide +kernel
theorem dX3_fits_70 : decode cX3_fits 70 = .ok (.aload_n 1, 1) := by decide +kernel
theorem dX3_fits_71 : decode cX3_fits 71 = .ok (.getfield 37, 3) := by decide +kernel
theorem dX3_fits_74 : decode cX3_fits 74 = .ok (.if_icmp .ne 18, 3) := by decide +kernel
theorem dX3_fits_77 : decode cX3_fits 77 = .ok (.aload_n 0, 1) := by decide +kernel
theorem dX3_fits_78 : decode cX3_fits 78 = .ok (.getfield 40, 3) := by decide +kernel
theorem dX3_fits_81 : decode cX3_fits 81 = .ok (.aload_n 1, 1) := by decide +kernel
theorem dX3_fits_82 : decode cX3_fits 82 = .ok (.getfield 40, 3) := by decide +kernel
theorem dX3_fits_85 : decode cX3_fits 85 = .ok (.if_icmp .ne 7, 3) := by decide +kernel
theorem dX3_fits_88 : decode cX3_fits 88 = .ok (.iconst 1, 1) := by decide +kernel
theorem dX3_fits_89 : decode cX3_fits 89 = .ok (.goto 4, 3) := by decide +kernel
theorem dX3_fits_92 : decode cX3_fits 92 = .ok (.iconst 0, 1) := by decide +kernel
theorem dX3_fits_93 : decode cX3_fits 93 = .ok (.ireturn, 1) := by decide +kernel
theorem dX3_isOfSamePartyFrom_0 : decode cX3_isOfSamePartyFrom 0 = .ok (.iconst 0, 1) := by decide +kernel
theorem dX3_isOfSamePartyFrom_1 : decode cX3_isOfSamePartyFrom 1 = .ok (.istore_n 3, 1) := by decide +kernel
theorem dX3_isOfSamePartyFrom_2 : decode cX3_isOfSamePartyFrom 2 = .ok (.iconst 0, 1) := by decide +kernel
theorem dX3_isOfSamePartyFrom_3 : decode cX3_isOfSamePartyFrom 3 = .ok (.istore 4, 2) := by decide +kernel
theorem dX3_isOfSamePartyFrom_5 : decode cX3_isOfSamePartyFrom 5 = .ok (.iload 4, 2) := by decide +kernel
theorem dX3_isOfSamePartyFrom_7 : decode cX3_isOfSamePartyFrom 7 = .ok (.aload_n 0, 1) := by decide +kernel
theorem dX3_isOfSamePartyFrom_8 : decode cX3_isOfSamePartyFrom 8 = .ok (.getfield 31, 3) := by decide +kernel
theorem dX3_isOfSamePartyFrom_11 : decode cX3_isOfSamePartyFrom 11 = .ok (.if_icmp .ge 46, 3) := by decide +kernel
theorem dX3_isOfSamePartyFrom_14 : decode cX3_isOfSamePartyFrom 14 = .ok (.aload_n 0, 1) := by decide +kernel
theorem dX3_isOfSamePartyFrom_15 : decode cX3_isOfSamePartyFrom 15 = .ok (.iload 4, 2) := by decide +kernel
theorem dX3_isOfSamePartyFrom_17 : decode cX3_isOfSamePartyFrom 17 = .ok (.invokevirtual 63, 3) := by decide +kernel
theorem dX3_isOfSamePartyFrom_20 : decode cX3_isOfSamePartyFrom 20 = .ok (.iload_n 1, 1) := by decide +kernel
theorem dX3_isOfSamePartyFrom_21 : decode cX3_isOfSamePartyFrom 21 = .ok (.if_icmp .lt 30, 3) := by decide +kernel
theorem dX3_isOfSamePartyFrom_24 : decode cX3_isOfSamePartyFrom 24 = .ok (.iconst 1, 1) := by decide +kernel
theorem dX3_isOfSamePartyFrom_25 : decode cX3_isOfSamePartyFrom 25 = .ok (.istore_n 3, 1) := by decide +kernel
theorem dX3_isOfSamePartyFrom_26 : decode cX3_isOfSamePartyFrom 26 = .ok (.aload_n 0, 1) := by decide +kernel
theorem dX3_isOfSamePartyFrom_27 : decode cX3_isOfSamePartyFrom 27 = .ok (.iload 4, 2) := by decide +kernel
theorem dX3_isOfSamePartyFrom_29 : decode cX3_isOfSamePartyFrom 29 = .ok (.invokevirtual 95, 3) := by decide +kernel
theorem dX3_isOfSamePartyFrom_32 : decode cX3_isOfSamePartyFrom 32 = .ok (.istore 5, 2) := by decide +kernel
theorem dX3_isOfSamePartyFrom_34 : decode cX3_isOfSamePartyFrom 34 = .ok (.aload_n 0, 1) := by decide +kernel
theorem dX3_isOfSamePartyFrom_35 : decode cX3_isOfSamePartyFrom 35 = .ok (.iload 5, 2) := by decide +kernel
theorem dX3_isOfSamePartyFrom_37 : decode cX3_isOfSamePartyFrom 37 = .ok (.invokevirtual 98, 3) := by decide +kernel
theorem dX3_isOfSamePartyFrom_40 : decode cX3_isOfSamePartyFrom 40 = .ok (.aload_n 2, 1) := by decide +kernel
theorem dX3_isOfSamePartyFrom_41 : decode cX3_isOfSamePartyFrom 41 = .ok (.iload 5, 2) := by decide +kernel
theorem dX3_isOfSamePartyFrom_43 : decode cX3_isOfSamePartyFrom 43 = .ok (.invokevirtual 98, 3) := by decide +kernel
theorem dX3_isOfSamePartyFrom_46 : decode cX3_isOfSamePartyFrom 46 = .ok (.if_icmp .eq 5, 3) := by decide +kernel
theorem dX3_isOfSamePartyFrom_49 : decode cX3_isOfSamePartyFrom 49 = .ok (.iconst 0, 1) := by decide +kernel
theorem dX3_isOfSamePartyFrom_50 : decode cX3_isOfSamePartyFrom 50 = .ok (.ireturn, 1) := by decide +kernel
theorem dX3_isOfSamePartyFrom_51 : decode cX3_isOfSamePartyFrom 51 = .ok (.iinc 4 1, 3) := by decide +kernel
theorem dX3_isOfSamePartyFrom_54 : decode cX3_isOfSamePartyFrom 54 = .ok (.goto (-49), 3) := by decide +kernel
theorem dX3_isOfSamePartyFrom_57 : decode cX3_isOfSamePartyFrom 57 = .ok (.iload_n 3, 1) := by decide +kernel
theorem dX3_isOfSamePartyFrom_58 : decode cX3_isOfSamePartyFrom 58 = .ok (.ireturn, 1) := by decide +kernel
theorem dX3_daysOf_0 : decode cX3_daysOf 0 = .ok (.aload_n 0, 1) := by decide +kernel
theorem dX3_daysOf_1 : decode cX3_daysOf 1 = .ok (.getfield 37, 3) := by decide +kernel
theorem dX3_daysOf_4 : decode cX3_daysOf 4 = .ok (.ifCond .ne 20, 3) := by decide +kernel
theorem dX3_daysOf_7 : decode cX3_daysOf 7 = .ok (.aload_n 0, 1) := by decide +kernel
theorem dX3_daysOf_8 : decode cX3_daysOf 8 = .ok (.iload_n 1, 1) := by decide +kernel
theorem dX3_daysOf_9 : decode cX3_daysOf 9 = .ok (.iconst 1, 1) := by decide +kernel
theorem dX3_daysOf_10 : decode cX3_daysOf 10 = .ok (.iadd, 1) := by decide +kernel
theorem dX3_daysOf_11 : decode cX3_daysOf 11 = .ok (.invokevirtual 63, 3) := by decide +kernel
theorem dX3_daysOf_14 : decode cX3_daysOf 14 = .ok (.aload_n 0, 1) := by decide +kernel
theorem dX3_daysOf_15 : decode cX3_daysOf 15 = .ok (.iload_n 1, 1) := by decide +kernel
theorem dX3_daysOf_16 : decode cX3_daysOf 16 = .ok (.invokevirtual 63, 3) := by decide +kernel
theorem dX3_daysOf_19 : decode cX3_daysOf 19 = .ok (.isub, 1) := by decide +kernel
theorem dX3_daysOf_20 : decode cX3_daysOf 20 = .ok (.i2l, 1) := by decide +kernel
theorem dX3_daysOf_21 : decode cX3_daysOf 21 = .ok (.goto 8, 3) := by decide +kernel
theorem dX3_daysOf_24 : decode cX3_daysOf 24 = .ok (.aload_n 0, 1) := by decide +kernel
theorem dX3_daysOf_25 : decode cX3_daysOf 25 = .ok (.getfield 28, 3) := by decide +kernel
theorem dX3_daysOf_28 : decode cX3_daysOf 28 = .ok (.i2l, 1) := by decide +kernel
theorem dX3_daysOf_29 : decode cX3_daysOf 29 = .ok (.lreturn, 1) := by decide +kernel
theorem dX3_rateOf_0 : decode cX3_rateOf 0 = .ok (.aload_n 2, 1) := by decide +kernel
theorem dX3_rateOf_1 : decode cX3_rateOf 1 = .ok (.aload_n 0, 1) := by decide +kernel
theorem dX3_rateOf_2 : decode cX3_rateOf 2 = .ok (.iload_n 1, 1) := by decide +kernel
theorem dX3_rateOf_3 : decode cX3_rateOf 3 = .ok (.invokevirtual 63, 3) := by decide +kernel
theorem dX3_rateOf_6 : decode cX3_rateOf 6 = .ok (.iconst 0, 1) := by decide +kernel
theorem dX3_rateOf_7 : decode cX3_rateOf 7 = .ok (.invokevirtual 69, 3) := by decide +kernel
theorem dX3_rateOf_10 : decode cX3_rateOf 10 = .ok (.i2l, 1) := by decide +kernel
theorem dX3_rateOf_11 : decode cX3_rateOf 11 = .ok (.lreturn, 1) := by decide +kernel
theorem dX4_init_0 : decode cX4_init 0 = .ok (.aload_n 0, 1) := by decide +kernel
theorem dX4_init_1 : decode cX4_init 1 = .ok (.invokespecial 1, 3) := by decide +kernel
theorem dX4_init_4 : decode cX4_init 4 = .ok (.aload_n 0, 1) := by decide +kernel
theorem dX4_init_5 : decode cX4_init 5 = .ok (.new 7, 3) := by decide +kernel
theorem dX4_init_8 : decode cX4_init 8 = .ok (.dup, 1) := by decide +kernel
theorem dX4_init_9 : decode cX4_init 9 = .ok (.invokespecial 9, 3) := by decide +kernel
theorem dX4_init_12 : decode cX4_init 12 = .ok (.putfield 10, 3) := by decide +kernel
theorem dX4_init_15 : decode cX4_init 15 = .ok (.aload_n 0, 1) := by decide +kernel
theorem dX4_init_16 : decode cX4_init 16 = .ok (.new 16, 3) := by decide +kernel
theorem dX4_init_19 : decode cX4_init 19 = .ok (.dup, 1) := by decide +kernel
theorem dX4_init_20 : decode cX4_init 20 = .ok (.invokespecial 18, 3) := by decide +kernel
theorem dX4_init_23 : decode cX4_init 23 = .ok (.putfield 19, 3) := by decide +kernel
theorem dX4_init_26 : decode cX4_init 26 = .ok (.aload_n 0, 1) := by decide +kernel
theorem dX4_init_27 : decode cX4_init 27 = .ok (.new 23, 3) := by decide +kernel
theorem dX4_init_30 : decode cX4_init 30 = .ok (.dup, 1) := by decide +kernel
theorem dX4_init_31 : decode cX4_init 31 = .ok (.invokespecial 25, 3) := by decide +kernel
theorem dX4_init_34 : decode cX4_init 34 = .ok (.putfield 26, 3) := by decide +kernel
theorem dX4_init_37 : decode cX4_init 37 = .ok (.return_, 1) := by decide +kernel
theorem dX4_holiday_0 : decode cX4_holiday 0 = .ok (.iload_n 1, 1) := by decide +kernel
theorem dX4_holiday_1 : decode cX4_holiday 1 = .ok (.ifCond .lt 8, 3) := by decide +kernel
theorem dX4_holiday_4 : decode cX4_holiday 4 = .ok (.iload_n 1, 1) := by decide +kernel
theorem dX4_holiday_5 : decode cX4_holiday 5 = .ok (.iconst 2, 1) := by decide +kernel
theorem dX4_holiday_6 : decode cX4_holiday 6 = .ok (.if_icmp .lt 13, 3) := by decide +kernel
theorem dX4_holiday_9 : decode cX4_holiday 9 = .ok (.new 30, 3) := by decide +kernel
theorem dX4_holiday_12 : decode cX4_holiday 12 = .ok (.dup, 1) := by decide +kernel
theorem dX4_holiday_13 : decode cX4_holiday 13 = .ok (.ldc 32, 2) := by decide +kernel
theorem dX4_holiday_15 : decode cX4_holiday 15 = .ok (.invokespecial 34, 3) := by decide +kernel
theorem dX4_holiday_18 : decode cX4_holiday 18 = .ok (.athrow, 1) := by decide +kernel
theorem dX4_holiday_19 : decode cX4_holiday 19 = .ok (.iload_n 2, 1) := by decide +kernel
theorem dX4_holiday_20 : decode cX4_holiday 20 = .ok (.iconst 0, 1) := by decide +kernel
theorem dX4_holiday_21 : decode cX4_holiday 21 = .ok (.sipush 3000, 3) := by decide +kernel
theorem dX4_holiday_24 : decode cX4_holiday 24 = .ok (.invokestatic 37, 3) := by decide +kernel
theorem dX4_holiday_27 : decode cX4_holiday 27 = .ok (.aload_n 0, 1) := by decide +kernel
theorem dX4_holiday_28 : decode cX4_holiday 28 = .ok (.getfield 10, 3) := by decide +kernel
theorem dX4_holiday_31 : decode cX4_holiday 31 = .ok (.iload_n 1, 1) := by decide +kernel
theorem dX4_holiday_32 : decode cX4_holiday 32 = .ok (.invokevirtual 41, 3) := by decide +kernel
theorem dX4_holiday_35 : decode cX4_holiday 35 = .ok (.astore_n 3, 1) := by decide +kernel
theorem dX4_holiday_36 : decode cX4_holiday 36 = .ok (.aload_n 3, 1) := by decide +kernel
theorem dX4_holiday_37 : decode cX4_holiday 37 = .ok (.invokevirtual 45, 3) := by decide +kernel
theorem dX4_holiday_40 : decode cX4_holiday 40 = .ok (.bipush 20, 2) := by decide +kernel
theorem dX4_holiday_42 : decode cX4_holiday 42 = .ok (.if_icmp .ge 11, 3) := by decide +kernel
theorem dX4_holiday_45 : decode cX4_holiday 45 = .ok (.aload_n 3, 1) := by decide +kernel
theorem dX4_holiday_46 : decode cX4_holiday 46 = .ok (.iload_n 2, 1) := by decide +kernel
theorem dX4_holiday_47 : decode cX4_holiday 47 = .ok (.invokevirtual 49, 3) := by decide +kernel
theorem dX4_holiday_50 : decode cX4_holiday 50 = .ok (.ifCond .eq 13, 3) := by decide +kernel
theorem dX4_holiday_53 : decode cX4_holiday 53 = .ok (.new 53, 3) := by decide +kernel
theorem dX4_holiday_56 : decode cX4_holiday 56 = .ok (.dup, 1) := by decide +kernel
theorem dX4_holiday_57 : decode cX4_holiday 57 = .ok (.ldc 55, 2) := by decide +kernel
theorem dX4_holiday_59 : decode cX4_holiday 59 = .ok (.invokespecial 57, 3) := by decide +kernel
theorem dX4_holiday_62 : decode cX4_holiday 62 = .ok (.athrow, 1) := by decide +kernel
theorem dX4_holiday_63 : decode cX4_holiday 63 = .ok (.aload_n 3, 1) := by decide +kernel
theorem dX4_holiday_64 : decode cX4_holiday 64 = .ok (.iload_n 2, 1) := by decide +kernel
theorem dX4_holiday_65 : decode cX4_holiday 65 = .ok (.iload_n 1, 1) := by decide +kernel
theorem dX4_holiday_66 : decode cX4_holiday 66 = .ok (.invokevirtual 58, 3) := by decide +kernel
theorem dX4_holiday_69 : decode cX4_holiday 69 = .ok (.aload_n 0, 1) := by decide +kernel
theorem dX4_holiday_70 : decode cX4_holiday 70 = .ok (.invokevirtual 62, 3) := by decide +kernel
theorem dX4_holiday_73 : decode cX4_holiday 73 = .ok (.aload_n 3, 1) := by decide +kernel
theorem dX4_holiday_74 : decode cX4_holiday 74 = .ok (.invokevirtual 45, 3) := by decide +kernel
theorem dX4_holiday_77 : decode cX4_holiday 77 = .ok (.ireturn, 1) := by decide +kernel
theorem dX4_isOpen_0 : decode cX4_isOpen 0 = .ok (.iload_n 1, 1) := by decide +kernel
theorem dX4_isOpen_1 : decode cX4_isOpen 1 = .ok (.iconst 0, 1) := by decide +kernel
theorem dX4_isOpen_2 : decode cX4_isOpen 2 = .ok (.sipush 3000, 3) := by decide +kernel
theorem dX4_isOpen_5 : decode cX4_isOpen 5 = .ok (.invokestatic 37, 3) := by decide +kernel
theorem dX4_isOpen_8 : decode cX4_isOpen 8 = .ok (.aload_n 0, 1) := by decide +kernel
theorem dX4_isOpen_9 : decode cX4_isOpen 9 = .ok (.getfield 10, 3) := by decide +kernel
theorem dX4_isOpen_12 : decode cX4_isOpen 12 = .ok (.iload_n 1, 1) := by decide +kernel
theorem dX4_isOpen_13 : decode cX4_isOpen 13 = .ok (.invokevirtual 65, 3) := by decide +kernel
theorem dX4_isOpen_16 : decode cX4_isOpen 16 = .ok (.ireturn, 1) := by decide +kernel
theorem dX4_roll_0 : decode cX4_roll 0 = .ok (.iload_n 1, 1) := by decide +kernel
theorem dX4_roll_1 : decode cX4_roll 1 = .ok (.iconst 0, 1) := by decide +kernel
theorem dX4_roll_2 : decode cX4_roll 2 = .ok (.sipush 3000, 3) := by decide +kernel
theorem dX4_roll_5 : decode cX4_roll 5 = .ok (.invokestatic 37, 3) := by decide +kernel
theorem dX4_roll_8 : decode cX4_roll 8 = .ok (.aload_n 0, 1) := by decide +kernel
theorem dX4_roll_9 : decode cX4_roll 9 = .ok (.getfield 10, 3) := by decide +kernel
theorem dX4_roll_12 : decode cX4_roll 12 = .ok (.iload_n 1, 1) := by decide +kernel
theorem dX4_roll_13 : decode cX4_roll 13 = .ok (.invokevirtual 68, 3) := by decide +kernel
theorem dX4_roll_16 : decode cX4_roll 16 = .ok (.ireturn, 1) := by decide +kernel
theorem dX4_fix_0 : decode cX4_fix 0 = .ok (.iload_n 1, 1) := by decide +kernel
theorem dX4_fix_1 : decode cX4_fix 1 = .ok (.iconst 0, 1) := by decide +kernel
theorem dX4_fix_2 : decode cX4_fix 2 = .ok (.sipush 3000, 3) := by decide +kernel
theorem dX4_fix_5 : decode cX4_fix 5 = .ok (.invokestatic 37, 3) := by decide +kernel
theorem dX4_fix_8 : decode cX4_fix 8 = .ok (.iload_n 2, 1) := by decide +kernel
theorem dX4_fix_9 : decode cX4_fix 9 = .ok (.sipush (-500), 3) := by decide +kernel
theorem dX4_fix_12 : decode cX4_fix 12 = .ok (.sipush 2000, 3) := by decide +kernel
theorem dX4_fix_15 : decode cX4_fix 15 = .ok (.invokestatic 37, 3) := by decide +kernel
theorem dX4_fix_18 : decode cX4_fix 18 = .ok (.aload_n 0, 1) := by decide +kernel
theorem dX4_fix_19 : decode cX4_fix 19 = .ok (.getfield 19, 3) := by decide +kernel
theorem dX4_fix_22 : decode cX4_fix 22 = .ok (.invokevirtual 45, 3) := by decide +kernel
theorem dX4_fix_25 : decode cX4_fix 25 = .ok (.bipush 60, 2) := by decide +kernel
theorem dX4_fix_27 : decode cX4_fix 27 = .ok (.if_icmp .lt 24, 3) := by decide +kernel
theorem dX4_fix_30 : decode cX4_fix 30 = .ok (.aload_n 0, 1) := by decide +kernel
theorem dX4_fix_31 : decode cX4_fix 31 = .ok (.getfield 19, 3) := by decide +kernel
theorem dX4_fix_34 : decode cX4_fix 34 = .ok (.iload_n 1, 1) := by decide +kernel
theorem dX4_fix_35 : decode cX4_fix 35 = .ok (.invokevirtual 49, 3) := by decide +kernel
theorem dX4_fix_38 : decode cX4_fix 38 = .ok (.ifCond .ne 13, 3) := by decide +kernel
theorem dX4_fix_41 : decode cX4_fix 41 = .ok (.new 53, 3) := by decide +kernel
theorem dX4_fix_44 : decode cX4_fix 44 = .ok (.dup, 1) := by decide +kernel
theorem dX4_fix_45 : decode cX4_fix 45 = .ok (.ldc 72, 2) := by decide +kernel
theorem dX4_fix_47 : decode cX4_fix 47 = .ok (.invokespecial 57, 3) := by decide +kernel
theorem dX4_fix_50 : decode cX4_fix 50 = .ok (.athrow, 1) := by decide +kernel
theorem dX4_fix_51 : decode cX4_fix 51 = .ok (.aload_n 0, 1) := by decide +kernel
theorem dX4_fix_52 : decode cX4_fix 52 = .ok (.getfield 19, 3) := by decide +kernel
theorem dX4_fix_55 : decode cX4_fix 55 = .ok (.iload_n 1, 1) := by decide +kernel
theorem dX4_fix_56 : decode cX4_fix 56 = .ok (.iload_n 2, 1) := by decide +kernel
theorem dX4_fix_57 : decode cX4_fix 57 = .ok (.invokevirtual 74, 3) := by decide +kernel
theorem dX4_fix_60 : decode cX4_fix 60 = .ok (.aload_n 0, 1) := by decide +kernel
theorem dX4_fix_61 : decode cX4_fix 61 = .ok (.getfield 19, 3) := by decide +kernel
theorem dX4_fix_64 : decode cX4_fix 64 = .ok (.invokevirtual 45, 3) := by decide +kernel
theorem dX4_fix_67 : decode cX4_fix 67 = .ok (.ireturn, 1) := by decide +kernel
theorem dX4_rateFor_0 : decode cX4_rateFor 0 = .ok (.iload_n 1, 1) := by decide +kernel
theorem dX4_rateFor_1 : decode cX4_rateFor 1 = .ok (.iconst 0, 1) := by decide +kernel
theorem dX4_rateFor_2 : decode cX4_rateFor 2 = .ok (.sipush 3000, 3) := by decide +kernel
theorem dX4_rateFor_5 : decode cX4_rateFor 5 = .ok (.invokestatic 37, 3) := by decide +kernel
theorem dX4_rateFor_8 : decode cX4_rateFor 8 = .ok (.aload_n 0, 1) := by decide +kernel
theorem dX4_rateFor_9 : decode cX4_rateFor 9 = .ok (.getfield 19, 3) := by decide +kernel
theorem dX4_rateFor_12 : decode cX4_rateFor 12 = .ok (.iload_n 1, 1) := by decide +kernel
theorem dX4_rateFor_13 : decode cX4_rateFor 13 = .ok (.iconst 0, 1) := by decide +kernel
theorem dX4_rateFor_14 : decode cX4_rateFor 14 = .ok (.invokevirtual 77, 3) := by decide +kernel
theorem dX4_rateFor_17 : decode cX4_rateFor 17 = .ok (.ireturn, 1) := by decide +kernel
theorem dX4_trade_0 : decode cX4_trade 0 = .ok (.iload_n 1, 1) := by decide +kernel
theorem dX4_trade_1 : decode cX4_trade 1 = .ok (.invokestatic 81, 3) := by decide +kernel
theorem dX4_trade_4 : decode cX4_trade 4 = .ok (.iload_n 2, 1) := by decide +kernel
theorem dX4_trade_5 : decode cX4_trade 5 = .ok (.iconst 1, 1) := by decide +kernel
theorem dX4_trade_6 : decode cX4_trade 6 = .ok (.sipush 1000, 3) := by decide +kernel
theorem dX4_trade_9 : decode cX4_trade 9 = .ok (.invokestatic 37, 3) := by decide +kernel
theorem dX4_trade_12 : decode cX4_trade 12 = .ok (.iload 4, 2) := by decide +kernel
theorem dX4_trade_14 : decode cX4_trade 14 = .ok (.sipush (-500), 3) := by decide +kernel
theorem dX4_trade_17 : decode cX4_trade 17 = .ok (.sipush 2000, 3) := by decide +kernel
theorem dX4_trade_20 : decode cX4_trade 20 = .ok (.invokestatic 37, 3) := by decide +kernel
theorem dX4_trade_23 : decode cX4_trade 23 = .ok (.iload 5, 2) := by decide +kernel
theorem dX4_trade_25 : decode cX4_trade 25 = .ok (.iconst 0, 1) := by decide +kernel
theorem dX4_trade_26 : decode cX4_trade 26 = .ok (.sipush 1000, 3) := by decide +kernel
theorem dX4_trade_29 : decode cX4_trade 29 = .ok (.invokestatic 37, 3) := by decide +kernel
theorem dX4_trade_32 : decode cX4_trade 32 = .ok (.iload 6, 2) := by decide +kernel
theorem dX4_trade_34 : decode cX4_trade 34 = .ok (.iconst 5, 1) := by decide +kernel
theorem dX4_trade_35 : decode cX4_trade 35 = .ok (.sipush 180, 3) := by decide +kernel
theorem dX4_trade_38 : decode cX4_trade 38 = .ok (.invokestatic 37, 3) := by decide +kernel
theorem dX4_trade_41 : decode cX4_trade 41 = .ok (.iload 7, 2) := by decide +kernel
theorem dX4_trade_43 : decode cX4_trade 43 = .ok (.iconst 1, 1) := by decide +kernel
theorem dX4_trade_44 : decode cX4_trade 44 = .ok (.bipush 10, 2) := by decide +kernel
theorem dX4_trade_46 : decode cX4_trade 46 = .ok (.invokestatic 37, 3) := by decide +kernel
theorem dX4_trade_49 : decode cX4_trade 49 = .ok (.aload_n 0, 1) := by decide +kernel
theorem dX4_trade_50 : decode cX4_trade 50 = .ok (.getfield 26, 3) := by decide +kernel
theorem dX4_trade_53 : decode cX4_trade 53 = .ok (.invokevirtual 85, 3) := by decide +kernel
theorem dX4_trade_56 : decode cX4_trade 56 = .ok (.bipush 10, 2) := by decide +kernel
theorem dX4_trade_58 : decode cX4_trade 58 = .ok (.if_icmp .lt 13, 3) := by decide +kernel
theorem dX4_trade_61 : decode cX4_trade 61 = .ok (.new 53, 3) := by decide +kernel
theorem dX4_trade_64 : decode cX4_trade 64 = .ok (.dup, 1) := by decide +kernel
theorem dX4_trade_65 : decode cX4_trade 65 = .ok (.ldc 88, 2) := by decide +kernel
theorem dX4_trade_67 : decode cX4_trade 67 = .ok (.invokespecial 57, 3) := by decide +kernel
theorem dX4_trade_70 : decode cX4_trade 70 = .ok (.athrow, 1) := by decide +kernel
theorem dX4_trade_71 : decode cX4_trade 71 = .ok (.new 90, 3) := by decide +kernel
theorem dX4_trade_74 : decode cX4_trade 74 = .ok (.dup, 1) := by decide +kernel
theorem dX4_trade_75 : decode cX4_trade 75 = .ok (.iload_n 1, 1) := by decide +kernel
theorem dX4_trade_76 : decode cX4_trade 76 = .ok (.iload_n 2, 1) := by decide +kernel
theorem dX4_trade_77 : decode cX4_trade 77 = .ok (.iload_n 3, 1) := by decide +kernel
theorem dX4_trade_78 : decode cX4_trade 78 = .ok (.iload 4, 2) := by decide +kernel
theorem dX4_trade_80 : decode cX4_trade 80 = .ok (.iload 5, 2) := by decide +kernel
theorem dX4_trade_82 : decode cX4_trade 82 = .ok (.iload 6, 2) := by decide +kernel
theorem dX4_trade_84 : decode cX4_trade 84 = .ok (.iload 7, 2) := by decide +kernel
theorem dX4_trade_86 : decode cX4_trade 86 = .ok (.invokespecial 92, 3) := by decide +kernel
theorem dX4_trade_89 : decode cX4_trade 89 = .ok (.astore 8, 2) := by decide +kernel
theorem dX4_trade_91 : decode cX4_trade 91 = .ok (.aload 8, 2) := by decide +kernel
theorem dX4_trade_93 : decode cX4_trade 93 = .ok (.aload_n 0, 1) := by decide +kernel
theorem dX4_trade_94 : decode cX4_trade 94 = .ok (.getfield 10, 3) := by decide +kernel
theorem dX4_trade_97 : decode cX4_trade 97 = .ok (.invokevirtual 95, 3) := by decide +kernel
theorem dX4_trade_100 : decode cX4_trade 100 = .ok (.aload_n 0, 1) := by decide +kernel
theorem dX4_trade_101 : decode cX4_trade 101 = .ok (.getfield 26, 3) := by decide +kernel
theorem dX4_trade_104 : decode cX4_trade 104 = .ok (.aload 8, 2) := by decide +kernel
theorem dX4_trade_106 : decode cX4_trade 106 = .ok (.invokevirtual 99, 3) := by decide +kernel
theorem dX4_trade_109 : decode cX4_trade 109 = .ok (.pop, 1) := by decide +kernel
theorem dX4_trade_110 : decode cX4_trade 110 = .ok (.aload_n 0, 1) := by decide +kernel
theorem dX4_trade_111 : decode cX4_trade 111 = .ok (.getfield 26, 3) := by decide +kernel
theorem dX4_trade_114 : decode cX4_trade 114 = .ok (.invokevirtual 85, 3) := by decide +kernel
theorem dX4_trade_117 : decode cX4_trade 117 = .ok (.iconst 1, 1) := by decide +kernel
theorem dX4_trade_118 : decode cX4_trade 118 = .ok (.isub, 1) := by decide +kernel
theorem dX4_trade_119 : decode cX4_trade 119 = .ok (.ireturn, 1) := by decide +kernel
theorem dX4_setTerms_0 : decode cX4_setTerms 0 = .ok (.aload_n 0, 1) := by decide +kernel
theorem dX4_setTerms_1 : decode cX4_setTerms 1 = .ok (.iload_n 1, 1) := by decide +kernel
theorem dX4_setTerms_2 : decode cX4_setTerms 2 = .ok (.invokevirtual 102, 3) := by decide +kernel
theorem dX4_setTerms_5 : decode cX4_setTerms 5 = .ok (.astore 5, 2) := by decide +kernel
theorem dX4_setTerms_7 : decode cX4_setTerms 7 = .ok (.iload_n 2, 1) := by decide +kernel
theorem dX4_setTerms_8 : decode cX4_setTerms 8 = .ok (.sipush (-500), 3) := by decide +kernel
theorem dX4_setTerms_11 : decode cX4_setTerms 11 = .ok (.sipush 500, 3) := by decide +kernel
theorem dX4_setTerms_14 : decode cX4_setTerms 14 = .ok (.invokestatic 37, 3) := by decide +kernel
theorem dX4_setTerms_17 : decode cX4_setTerms 17 = .ok (.iload_n 3, 1) := by decide +kernel
theorem dX4_setTerms_18 : decode cX4_setTerms 18 = .ok (.iconst 0, 1) := by decide +kernel
theorem dX4_setTerms_19 : decode cX4_setTerms 19 = .ok (.iconst 1, 1) := by decide +kernel
theorem dX4_setTerms_20 : decode cX4_setTerms 20 = .ok (.invokestatic 37, 3) := by decide +kernel
theorem dX4_setTerms_23 : decode cX4_setTerms 23 = .ok (.iload 4, 2) := by decide +kernel
theorem dX4_setTerms_25 : decode cX4_setTerms 25 = .ok (.iconst 0, 1) := by decide +kernel
theorem dX4_setTerms_26 : decode cX4_setTerms 26 = .ok (.iconst 2, 1) := by decide +kernel
theorem dX4_setTerms_27 : decode cX4_setTerms 27 = .ok (.invokestatic 37, 3) := by decide +kernel
theorem dX4_setTerms_30 : decode cX4_setTerms 30 = .ok (.aload 5, 2) := by decide +kernel
theorem dX4_setTerms_32 : decode cX4_setTerms 32 = .ok (.getfield 106, 3) := by decide +kernel
theorem dX4_setTerms_35 : decode cX4_setTerms 35 = .ok (.invokevirtual 45, 3) := by decide +kernel
theorem dX4_setTerms_38 : decode cX4_setTerms 38 = .ok (.ifCond .le 13, 3) := by decide +kernel
theorem dX4_setTerms_41 : decode cX4_setTerms 41 = .ok (.new 53, 3) := by decide +kernel
theorem dX4_setTerms_44 : decode cX4_setTerms 44 = .ok (.dup, 1) := by decide +kernel
theorem dX4_setTerms_45 : decode cX4_setTerms 45 = .ok (.ldc 109, 2) := by decide +kernel
theorem dX4_setTerms_47 : decode cX4_setTerms 47 = .ok (.invokespecial 57, 3) := by decide +kernel
theorem dX4_setTerms_50 : decode cX4_setTerms 50 = .ok (.athrow, 1) := by decide +kernel
theorem dX4_setTerms_51 : decode cX4_setTerms 51 = .ok (.aload 5, 2) := by decide +kernel
theorem dX4_setTerms_53 : decode cX4_setTerms 53 = .ok (.iload_n 2, 1) := by decide +kernel
theorem dX4_setTerms_54 : decode cX4_setTerms 54 = .ok (.putfield 111, 3) := by decide +kernel
theorem dX4_setTerms_57 : decode cX4_setTerms 57 = .ok (.aload 5, 2) := by decide +kernel
theorem dX4_setTerms_59 : decode cX4_setTerms 59 = .ok (.iload_n 3, 1) := by decide +kernel
theorem dX4_setTerms_60 : decode cX4_setTerms 60 = .ok (.putfield 115, 3) := by decide +kernel
theorem dX4_setTerms_63 : decode cX4_setTerms 63 = .ok (.aload 5, 2) := by decide +kernel
theorem dX4_setTerms_65 : decode cX4_setTerms 65 = .ok (.iload 4, 2) := by decide +kernel
theorem dX4_setTerms_67 : decode cX4_setTerms 67 = .ok (.putfield 118, 3) := by decide +kernel
theorem dX4_setTerms_70 : decode cX4_setTerms 70 = .ok (.return_, 1) := by decide +kernel
theorem dX4_breakPart_0 : decode cX4_breakPart 0 = .ok (.aload_n 0, 1) := by decide +kernel
theorem dX4_breakPart_1 : decode cX4_breakPart 1 = .ok (.iload_n 1, 1) := by decide +kernel
theorem dX4_breakPart_2 : decode cX4_breakPart 2 = .ok (.invokevirtual 102, 3) := by decide +kernel
theorem dX4_breakPart_5 : decode cX4_breakPart 5 = .ok (.astore 4, 2) := by decide +kernel
theorem dX4_breakPart_7 : decode cX4_breakPart 7 = .ok (.iload_n 2, 1) := by decide +kernel
theorem dX4_breakPart_8 : decode cX4_breakPart 8 = .ok (.iconst 0, 1) := by decide +kernel
theorem dX4_breakPart_9 : decode cX4_breakPart 9 = .ok (.sipush 3000, 3) := by decide +kernel
theorem dX4_breakPart_12 : decode cX4_breakPart 12 = .ok (.invokestatic 37, 3) := by decide +kernel
theorem dX4_breakPart_15 : decode cX4_breakPart 15 = .ok (.iload_n 3, 1) := by decide +kernel
theorem dX4_breakPart_16 : decode cX4_breakPart 16 = .ok (.iconst 1, 1) := by decide +kernel
theorem dX4_breakPart_17 : decode cX4_breakPart 17 = .ok (.sipush 1000, 3) := by decide +kernel
theorem dX4_breakPart_20 : decode cX4_breakPart 20 = .ok (.invokestatic 37, 3) := by decide +kernel
theorem dX4_breakPart_23 : decode cX4_breakPart 23 = .ok (.aload 4, 2) := by decide +kernel
theorem dX4_breakPart_25 : decode cX4_breakPart 25 = .ok (.invokevirtual 121, 3) := by decide +kernel
theorem dX4_breakPart_28 : decode cX4_breakPart 28 = .ok (.iload_n 3, 1) := by decide +kernel
theorem dX4_breakPart_29 : decode cX4_breakPart 29 = .ok (.if_icmp .ge 13, 3) := by decide +kernel
theorem dX4_breakPart_32 : decode cX4_breakPart 32 = .ok (.new 53, 3) := by decide +kernel
theorem dX4_breakPart_35 : decode cX4_breakPart 35 = .ok (.dup, 1) := by decide +kernel
theorem dX4_breakPart_36 : decode cX4_breakPart 36 = .ok (.ldc 124, 2) := by decide +kernel
theorem dX4_breakPart_38 : decode cX4_breakPart 38 = .ok (.invokespecial 57, 3) := by decide +kernel
theorem dX4_breakPart_41 : decode cX4_breakPart 41 = .ok (.athrow, 1) := by decide +kernel
theorem dX4_breakPart_42 : decode cX4_breakPart 42 = .ok (.aload 4, 2) := by decide +kernel
theorem dX4_breakPart_44 : decode cX4_breakPart 44 = .ok (.getfield 106, 3) := by decide +kernel
theorem dX4_breakPart_47 : decode cX4_breakPart 47 = .ok (.iload_n 2, 1) := by decide +kernel
theorem dX4_breakPart_48 : decode cX4_breakPart 48 = .ok (.iload_n 3, 1) := by decide +kernel
theorem dX4_breakPart_49 : decode cX4_breakPart 49 = .ok (.invokevirtual 58, 3) := by decide +kernel
theorem dX4_breakPart_52 : decode cX4_breakPart 52 = .ok (.aload 4, 2) := by decide +kernel
theorem dX4_breakPart_54 : decode cX4_breakPart 54 = .ok (.getfield 106, 3) := by decide +kernel
theorem dX4_breakPart_57 : decode cX4_breakPart 57 = .ok (.invokevirtual 45, 3) := by decide +kernel
theorem dX4_breakPart_60 : decode cX4_breakPart 60 = .ok (.ireturn, 1) := by decide +kernel
theorem dX4_handOver_0 : decode cX4_handOver 0 = .ok (.aload_n 0, 1) := by decide +kernel
theorem dX4_handOver_1 : decode cX4_handOver 1 = .ok (.iload_n 1, 1) := by decide +kernel
theorem dX4_handOver_2 : decode cX4_handOver 2 = .ok (.invokevirtual 102, 3) := by decide +kernel
theorem dX4_handOver_5 : decode cX4_handOver 5 = .ok (.astore 4, 2) := by decide +kernel
theorem dX4_handOver_7 : decode cX4_handOver 7 = .ok (.iload_n 3, 1) := by decide +kernel
theorem dX4_handOver_8 : decode cX4_handOver 8 = .ok (.invokestatic 81, 3) := by decide +kernel
theorem dX4_handOver_11 : decode cX4_handOver 11 = .ok (.iload_n 2, 1) := by decide +kernel
theorem dX4_handOver_12 : decode cX4_handOver 12 = .ok (.iconst 0, 1) := by decide +kernel
theorem dX4_handOver_13 : decode cX4_handOver 13 = .ok (.sipush 3000, 3) := by decide +kernel
theorem dX4_handOver_16 : decode cX4_handOver 16 = .ok (.invokestatic 37, 3) := by decide +kernel
theorem dX4_handOver_19 : decode cX4_handOver 19 = .ok (.aload 4, 2) := by decide +kernel
theorem dX4_handOver_21 : decode cX4_handOver 21 = .ok (.getfield 126, 3) := by decide +kernel
theorem dX4_handOver_24 : decode cX4_handOver 24 = .ok (.invokevirtual 45, 3) := by decide +kernel
theorem dX4_handOver_27 : decode cX4_handOver 27 = .ok (.bipush 10, 2) := by decide +kernel
theorem dX4_handOver_29 : decode cX4_handOver 29 = .ok (.if_icmp .lt 13, 3) := by decide +kernel
theorem dX4_handOver_32 : decode cX4_handOver 32 = .ok (.new 53, 3) := by decide +kernel
theorem dX4_handOver_35 : decode cX4_handOver 35 = .ok (.dup, 1) := by decide +kernel
theorem dX4_handOver_36 : decode cX4_handOver 36 = .ok (.ldc 129, 2) := by decide +kernel
theorem dX4_handOver_38 : decode cX4_handOver 38 = .ok (.invokespecial 57, 3) := by decide +kernel
theorem dX4_handOver_41 : decode cX4_handOver 41 = .ok (.athrow, 1) := by decide +kernel
theorem dX4_handOver_42 : decode cX4_handOver 42 = .ok (.aload 4, 2) := by decide +kernel
theorem dX4_handOver_44 : decode cX4_handOver 44 = .ok (.iload_n 2, 1) := by decide +kernel
theorem dX4_handOver_45 : decode cX4_handOver 45 = .ok (.invokevirtual 131, 3) := by decide +kernel
theorem dX4_handOver_48 : decode cX4_handOver 48 = .ok (.istore 5, 2) := by decide +kernel
theorem dX4_handOver_50 : decode cX4_handOver 50 = .ok (.aload 4, 2) := by decide +kernel
theorem dX4_handOver_52 : decode cX4_handOver 52 = .ok (.getfield 126, 3) := by decide +kernel
theorem dX4_handOver_55 : decode cX4_handOver 55 = .ok (.iload_n 2, 1) := by decide +kernel
theorem dX4_handOver_56 : decode cX4_handOver 56 = .ok (.iload_n 3, 1) := by decide +kernel
theorem dX4_handOver_57 : decode cX4_handOver 57 = .ok (.invokevirtual 58, 3) := by decide +kernel
theorem dX4_handOver_60 : decode cX4_handOver 60 = .ok (.iload 5, 2) := by decide +kernel
theorem dX4_handOver_62 : decode cX4_handOver 62 = .ok (.ireturn, 1) := by decide +kernel
theorem dX4_press_0 : decode cX4_press 0 = .ok (.iload_n 1, 1) := by decide +kernel
theorem dX4_press_1 : decode cX4_press 1 = .ok (.iconst 0, 1) := by decide +kernel
theorem dX4_press_2 : decode cX4_press 2 = .ok (.sipush 3000, 3) := by decide +kernel
theorem dX4_press_5 : decode cX4_press 5 = .ok (.invokestatic 37, 3) := by decide +kernel
theorem dX4_press_8 : decode cX4_press 8 = .ok (.iconst 0, 1) := by decide +kernel
theorem dX4_press_9 : decode cX4_press 9 = .ok (.istore_n 2, 1) := by decide +kernel
theorem dX4_press_10 : decode cX4_press 10 = .ok (.iconst 0, 1) := by decide +kernel
theorem dX4_press_11 : decode cX4_press 11 = .ok (.istore_n 3, 1) := by decide +kernel
theorem dX4_press_12 : decode cX4_press 12 = .ok (.iload_n 3, 1) := by decide +kernel
theorem dX4_press_13 : decode cX4_press 13 = .ok (.aload_n 0, 1) := by decide +kernel
theorem dX4_press_14 : decode cX4_press 14 = .ok (.getfield 26, 3) := by decide +kernel
theorem dX4_press_17 : decode cX4_press 17 = .ok (.invokevirtual 85, 3) := by decide +kernel
theorem dX4_press_20 : decode cX4_press 20 = .ok (.if_icmp .ge 62, 3) := by decide +kernel
theorem dX4_press_23 : decode cX4_press 23 = .ok (.iload_n 3, 1) := by decide +kernel
theorem dX4_press_24 : decode cX4_press 24 = .ok (.iconst 1, 1) := by decide +kernel
theorem dX4_press_25 : decode cX4_press 25 = .ok (.iadd, 1) := by decide +kernel
theorem dX4_press_26 : decode cX4_press 26 = .ok (.istore 4, 2) := by decide +kernel
theorem dX4_press_28 : decode cX4_press 28 = .ok (.iload 4, 2) := by decide +kernel
theorem dX4_press_30 : decode cX4_press 30 = .ok (.aload_n 0, 1) := by decide +kernel
theorem dX4_press_31 : decode cX4_press 31 = .ok (.getfield 26, 3) := by decide +kernel
theorem dX4_press_34 : decode cX4_press 34 = .ok (.invokevirtual 85, 3) := by decide +kernel
theorem dX4_press_37 : decode cX4_press 37 = .ok (.if_icmp .ge 39, 3) := by decide +kernel
theorem dX4_press_40 : decode cX4_press 40 = .ok (.iload_n 2, 1) := by decide +kernel
theorem dX4_press_41 : decode cX4_press 41 = .ok (.aload_n 0, 1) := by decide +kernel
theorem dX4_press_42 : decode cX4_press 42 = .ok (.getfield 26, 3) := by decide +kernel
theorem dX4_press_45 : decode cX4_press 45 = .ok (.iload_n 3, 1) := by decide +kernel
theorem dX4_press_46 : decode cX4_press 46 = .ok (.invokevirtual 134, 3) := by decide +kernel
theorem dX4_press_49 : decode cX4_press 49 = .ok (.checkcast 90, 3) := by decide +kernel
theorem dX4_press_52 : decode cX4_press 52 = .ok (.aload_n 0, 1) := by decide +kernel
theorem dX4_press_53 : decode cX4_press 53 = .ok (.getfield 26, 3) := by decide +kernel
theorem dX4_press_56 : decode cX4_press 56 = .ok (.iload 4, 2) := by decide +kernel
theorem dX4_press_58 : decode cX4_press 58 = .ok (.invokevirtual 134, 3) := by decide +kernel
theorem dX4_press_61 : decode cX4_press 61 = .ok (.checkcast 90, 3) := by decide +kernel
theorem dX4_press_64 : decode cX4_press 64 = .ok (.iload_n 1, 1) := by decide +kernel
theorem dX4_press_65 : decode cX4_press 65 = .ok (.invokestatic 138, 3) := by decide +kernel
theorem dX4_press_68 : decode cX4_press 68 = .ok (.iadd, 1) := by decide +kernel
theorem dX4_press_69 : decode cX4_press 69 = .ok (.istore_n 2, 1) := by decide +kernel
theorem dX4_press_70 : decode cX4_press 70 = .ok (.iinc 4 1, 3) := by decide +kernel
theorem dX4_press_73 : decode cX4_press 73 = .ok (.goto (-45), 3) := by decide +kernel
theorem dX4_press_76 : decode cX4_press 76 = .ok (.iinc 3 1, 3) := by decide +kernel
theorem dX4_press_79 : decode cX4_press 79 = .ok (.goto (-67), 3) := by decide +kernel
theorem dX4_press_82 : decode cX4_press 82 = .ok (.iload_n 2, 1) := by decide +kernel
theorem dX4_press_83 : decode cX4_press 83 = .ok (.ireturn, 1) := by decide +kernel
theorem dX4_trades_0 : decode cX4_trades 0 = .ok (.aload_n 0, 1) := by decide +kernel
theorem dX4_trades_1 : decode cX4_trades 1 = .ok (.getfield 26, 3) := by decide +kernel
theorem dX4_trades_4 : decode cX4_trades 4 = .ok (.invokevirtual 85, 3) := by decide +kernel
theorem dX4_trades_7 : decode cX4_trades 7 = .ok (.ireturn, 1) := by decide +kernel
theorem dX4_start_0 : decode cX4_start 0 = .ok (.aload_n 0, 1) := by decide +kernel
theorem dX4_start_1 : decode cX4_start 1 = .ok (.iload_n 1, 1) := by decide +kernel
theorem dX4_start_2 : decode cX4_start 2 = .ok (.iload_n 2, 1) := by decide +kernel
theorem dX4_start_3 : decode cX4_start 3 = .ok (.invokevirtual 142, 3) := by decide +kernel
theorem dX4_start_6 : decode cX4_start 6 = .ok (.iload_n 2, 1) := by decide +kernel
theorem dX4_start_7 : decode cX4_start 7 = .ok (.invokevirtual 146, 3) := by decide +kernel
theorem dX4_start_10 : decode cX4_start 10 = .ok (.ireturn, 1) := by decide +kernel
theorem dX4_end_0 : decode cX4_end 0 = .ok (.aload_n 0, 1) := by decide +kernel
theorem dX4_end_1 : decode cX4_end 1 = .ok (.iload_n 1, 1) := by decide +kernel
theorem dX4_end_2 : decode cX4_end 2 = .ok (.iload_n 2, 1) := by decide +kernel
theorem dX4_end_3 : decode cX4_end 3 = .ok (.invokevirtual 142, 3) := by decide +kernel
theorem dX4_end_6 : decode cX4_end 6 = .ok (.iload_n 2, 1) := by decide +kernel
theorem dX4_end_7 : decode cX4_end 7 = .ok (.invokevirtual 149, 3) := by decide +kernel
theorem dX4_end_10 : decode cX4_end 10 = .ok (.ireturn, 1) := by decide +kernel
theorem dX4_lots_0 : decode cX4_lots 0 = .ok (.aload_n 0, 1) := by decide +kernel
theorem dX4_lots_1 : decode cX4_lots 1 = .ok (.iload_n 1, 1) := by decide +kernel
theorem dX4_lots_2 : decode cX4_lots 2 = .ok (.iload_n 2, 1) := by decide +kernel
theorem dX4_lots_3 : decode cX4_lots 3 = .ok (.invokevirtual 142, 3) := by decide +kernel
theorem dX4_lots_6 : decode cX4_lots 6 = .ok (.iload_n 2, 1) := by decide +kernel
theorem dX4_lots_7 : decode cX4_lots 7 = .ok (.invokevirtual 152, 3) := by decide +kernel
theorem dX4_lots_10 : decode cX4_lots 10 = .ok (.ireturn, 1) := by decide +kernel
theorem dX4_floating_0 : decode cX4_floating 0 = .ok (.aload_n 0, 1) := by decide +kernel
theorem dX4_floating_1 : decode cX4_floating 1 = .ok (.iload_n 1, 1) := by decide +kernel
theorem dX4_floating_2 : decode cX4_floating 2 = .ok (.iload_n 2, 1) := by decide +kernel
theorem dX4_floating_3 : decode cX4_floating 3 = .ok (.invokevirtual 142, 3) := by decide +kernel
theorem dX4_floating_6 : decode cX4_floating 6 = .ok (.iload_n 2, 1) := by decide +kernel
theorem dX4_floating_7 : decode cX4_floating 7 = .ok (.aload_n 0, 1) := by decide +kernel
theorem dX4_floating_8 : decode cX4_floating 8 = .ok (.getfield 19, 3) := by decide +kernel
theorem dX4_floating_11 : decode cX4_floating 11 = .ok (.invokevirtual 155, 3) := by decide +kernel
theorem dX4_floating_14 : decode cX4_floating 14 = .ok (.lreturn, 1) := by decide +kernel
theorem dX4_flow_0 : decode cX4_flow 0 = .ok (.aload_n 0, 1) := by decide +kernel
theorem dX4_flow_1 : decode cX4_flow 1 = .ok (.iload_n 1, 1) := by decide +kernel
theorem dX4_flow_2 : decode cX4_flow 2 = .ok (.iload_n 2, 1) := by decide +kernel
theorem dX4_flow_3 : decode cX4_flow 3 = .ok (.invokevirtual 142, 3) := by decide +kernel
theorem dX4_flow_6 : decode cX4_flow 6 = .ok (.iload_n 2, 1) := by decide +kernel
theorem dX4_flow_7 : decode cX4_flow 7 = .ok (.aload_n 0, 1) := by decide +kernel
theorem dX4_flow_8 : decode cX4_flow 8 = .ok (.getfield 19, 3) := by decide +kernel
theorem dX4_flow_11 : decode cX4_flow 11 = .ok (.invokevirtual 159, 3) := by decide +kernel
theorem dX4_flow_14 : decode cX4_flow 14 = .ok (.lreturn, 1) := by decide +kernel
theorem dX4_partyOn_0 : decode cX4_partyOn 0 = .ok (.aload_n 0, 1) := by decide +kernel
theorem dX4_partyOn_1 : decode cX4_partyOn 1 = .ok (.iload_n 1, 1) := by decide +kernel
theorem dX4_partyOn_2 : decode cX4_partyOn 2 = .ok (.invokevirtual 102, 3) := by decide +kernel
theorem dX4_partyOn_5 : decode cX4_partyOn 5 = .ok (.astore_n 3, 1) := by decide +kernel
theorem dX4_partyOn_6 : decode cX4_partyOn 6 = .ok (.iload_n 2, 1) := by decide +kernel
theorem dX4_partyOn_7 : decode cX4_partyOn 7 = .ok (.iconst 0, 1) := by decide +kernel
theorem dX4_partyOn_8 : decode cX4_partyOn 8 = .ok (.sipush 3000, 3) := by decide +kernel
theorem dX4_partyOn_11 : decode cX4_partyOn 11 = .ok (.invokestatic 37, 3) := by decide +kernel
theorem dX4_partyOn_14 : decode cX4_partyOn 14 = .ok (.aload_n 3, 1) := by decide +kernel
theorem dX4_partyOn_15 : decode cX4_partyOn 15 = .ok (.iload_n 2, 1) := by decide +kernel
theorem dX4_partyOn_16 : decode cX4_partyOn 16 = .ok (.invokevirtual 131, 3) := by decide +kernel
theorem dX4_partyOn_19 : decode cX4_partyOn 19 = .ok (.ireturn, 1) := by decide +kernel
theorem dX4_cash_0 : decode cX4_cash 0 = .ok (.iload_n 1, 1) := by decide +kernel
theorem dX4_cash_1 : decode cX4_cash 1 = .ok (.invokestatic 81, 3) := by decide +kernel
theorem dX4_cash_4 : decode cX4_cash 4 = .ok (.iload_n 2, 1) := by decide +kernel
theorem dX4_cash_5 : decode cX4_cash 5 = .ok (.iconst 0, 1) := by decide +kernel
theorem dX4_cash_6 : decode cX4_cash 6 = .ok (.sipush 3100, 3) := by decide +kernel
theorem dX4_cash_9 : decode cX4_cash 9 = .ok (.invokestatic 37, 3) := by decide +kernel
theorem dX4_cash_12 : decode cX4_cash 12 = .ok (.aload_n 0, 1) := by decide +kernel
theorem dX4_cash_13 : decode cX4_cash 13 = .ok (.iload_n 1, 1) := by decide +kernel
theorem dX4_cash_14 : decode cX4_cash 14 = .ok (.iload_n 2, 1) := by decide +kernel
theorem dX4_cash_15 : decode cX4_cash 15 = .ok (.invokevirtual 162, 3) := by decide +kernel
theorem dX4_cash_18 : decode cX4_cash 18 = .ok (.lreturn, 1) := by decide +kernel
theorem dX4_cashOfDays_0 : decode cX4_cashOfDays 0 = .ok (.iload_n 1, 1) := by decide +kernel
theorem dX4_cashOfDays_1 : decode cX4_cashOfDays 1 = .ok (.invokestatic 81, 3) := by decide +kernel
theorem dX4_cashOfDays_4 : decode cX4_cashOfDays 4 = .ok (.iload_n 2, 1) := by decide +kernel
theorem dX4_cashOfDays_5 : decode cX4_cashOfDays 5 = .ok (.iload_n 3, 1) := by decide +kernel
theorem dX4_cashOfDays_6 : decode cX4_cashOfDays 6 = .ok (.invokestatic 166, 3) := by decide +kernel
theorem dX4_cashOfDays_9 : decode cX4_cashOfDays 9 = .ok (.lconst 0, 1) := by decide +kernel
theorem dX4_cashOfDays_10 : decode cX4_cashOfDays 10 = .ok (.lstore 4, 2) := by decide +kernel
theorem dX4_cashOfDays_12 : decode cX4_cashOfDays 12 = .ok (.iload_n 2, 1) := by decide +kernel
theorem dX4_cashOfDays_13 : decode cX4_cashOfDays 13 = .ok (.istore 6, 2) := by decide +kernel
theorem dX4_cashOfDays_15 : decode cX4_cashOfDays 15 = .ok (.iload 6, 2) := by decide +kernel
theorem dX4_cashOfDays_17 : decode cX4_cashOfDays 17 = .ok (.iload_n 3, 1) := by decide +kernel
theorem dX4_cashOfDays_18 : decode cX4_cashOfDays 18 = .ok (.if_icmp .gt 21, 3) := by decide +kernel
theorem dX4_cashOfDays_21 : decode cX4_cashOfDays 21 = .ok (.lload 4, 2) := by decide +kernel
theorem dX4_cashOfDays_23 : decode cX4_cashOfDays 23 = .ok (.aload_n 0, 1) := by decide +kernel
theorem dX4_cashOfDays_24 : decode cX4_cashOfDays 24 = .ok (.iload_n 1, 1) := by decide +kernel
theorem dX4_cashOfDays_25 : decode cX4_cashOfDays 25 = .ok (.iload 6, 2) := by decide +kernel
theorem dX4_cashOfDays_27 : decode cX4_cashOfDays 27 = .ok (.invokevirtual 162, 3) := by decide +kernel
theorem dX4_cashOfDays_30 : decode cX4_cashOfDays 30 = .ok (.ladd, 1) := by decide +kernel
theorem dX4_cashOfDays_31 : decode cX4_cashOfDays 31 = .ok (.lstore 4, 2) := by decide +kernel
theorem dX4_cashOfDays_33 : decode cX4_cashOfDays 33 = .ok (.iinc 6 1, 3) := by decide +kernel
theorem dX4_cashOfDays_36 : decode cX4_cashOfDays 36 = .ok (.goto (-21), 3) := by decide +kernel
theorem dX4_cashOfDays_39 : decode cX4_cashOfDays 39 = .ok (.lload 4, 2) := by decide +kernel
theorem dX4_cashOfDays_41 : decode cX4_cashOfDays 41 = .ok (.lreturn, 1) := by decide +kernel
theorem dX4_cashByTrades_0 : decode cX4_cashByTrades 0 = .ok (.iload_n 1, 1) := by decide +kernel
theorem dX4_cashByTrades_1 : decode cX4_cashByTrades 1 = .ok (.invokestatic 81, 3) := by decide +kernel
theorem dX4_cashByTrades_4 : decode cX4_cashByTrades 4 = .ok (.iload_n 2, 1) := by decide +kernel
theorem dX4_cashByTrades_5 : decode cX4_cashByTrades 5 = .ok (.iload_n 3, 1) := by decide +kernel
theorem dX4_cashByTrades_6 : decode cX4_cashByTrades 6 = .ok (.invokestatic 166, 3) := by decide +kernel
theorem dX4_cashByTrades_9 : decode cX4_cashByTrades 9 = .ok (.lconst 0, 1) := by decide +kernel
theorem dX4_cashByTrades_10 : decode cX4_cashByTrades 10 = .ok (.lstore 4, 2) := by decide +kernel
theorem dX4_cashByTrades_12 : decode cX4_cashByTrades 12 = .ok (.iconst 0, 1) := by decide +kernel
theorem dX4_cashByTrades_13 : decode cX4_cashByTrades 13 = .ok (.istore 6, 2) := by decide +kernel
theorem dX4_cashByTrades_15 : decode cX4_cashByTrades 15 = .ok (.iload 6, 2) := by decide +kernel
theorem dX4_cashByTrades_17 : decode cX4_cashByTrades 17 = .ok (.aload_n 0, 1) := by decide +kernel
theorem dX4_cashByTrades_18 : decode cX4_cashByTrades 18 = .ok (.getfield 26, 3) := by decide +kernel
theorem dX4_cashByTrades_21 : decode cX4_cashByTrades 21 = .ok (.invokevirtual 85, 3) := by decide +kernel
theorem dX4_cashByTrades_24 : decode cX4_cashByTrades 24 = .ok (.if_icmp .ge 36, 3) := by decide +kernel
theorem dX4_cashByTrades_27 : decode cX4_cashByTrades 27 = .ok (.lload 4, 2) := by decide +kernel
theorem dX4_cashByTrades_29 : decode cX4_cashByTrades 29 = .ok (.aload_n 0, 1) := by decide +kernel
theorem dX4_cashByTrades_30 : decode cX4_cashByTrades 30 = .ok (.getfield 26, 3) := by decide +kernel
theorem dX4_cashByTrades_33 : decode cX4_cashByTrades 33 = .ok (.iload 6, 2) := by decide +kernel
theorem dX4_cashByTrades_35 : decode cX4_cashByTrades 35 = .ok (.invokevirtual 134, 3) := by decide +kernel
theorem dX4_cashByTrades_38 : decode cX4_cashByTrades 38 = .ok (.checkcast 90, 3) := by decide +kernel
theorem dX4_cashByTrades_41 : decode cX4_cashByTrades 41 = .ok (.iload_n 1, 1) := by decide +kernel
theorem dX4_cashByTrades_42 : decode cX4_cashByTrades 42 = .ok (.iload_n 2, 1) := by decide +kernel
theorem dX4_cashByTrades_43 : decode cX4_cashByTrades 43 = .ok (.iload_n 3, 1) := by decide +kernel
theorem dX4_cashByTrades_44 : decode cX4_cashByTrades 44 = .ok (.aload_n 0, 1) := by decide +kernel
theorem dX4_cashByTrades_45 : decode cX4_cashByTrades 45 = .ok (.getfield 19, 3) := by decide +kernel
theorem dX4_cashByTrades_48 : decode cX4_cashByTrades 48 = .ok (.invokevirtual 169, 3) := by decide +kernel
theorem dX4_cashByTrades_51 : decode cX4_cashByTrades 51 = .ok (.ladd, 1) := by decide +kernel
theorem dX4_cashByTrades_52 : decode cX4_cashByTrades 52 = .ok (.lstore 4, 2) := by decide +kernel
theorem dX4_cashByTrades_54 : decode cX4_cashByTrades 54 = .ok (.iinc 6 1, 3) := by decide +kernel
theorem dX4_cashByTrades_57 : decode cX4_cashByTrades 57 = .ok (.goto (-42), 3) := by decide +kernel
theorem dX4_cashByTrades_60 : decode cX4_cashByTrades 60 = .ok (.lload 4, 2) := by decide +kernel
theorem dX4_cashByTrades_62 : decode cX4_cashByTrades 62 = .ok (.lreturn, 1) := by decide +kernel
theorem dX4_nextFlow_0 : decode cX4_nextFlow 0 = .ok (.iload_n 1, 1) := by decide +kernel
theorem dX4_nextFlow_1 : decode cX4_nextFlow 1 = .ok (.invokestatic 81, 3) := by decide +kernel
theorem dX4_nextFlow_4 : decode cX4_nextFlow 4 = .ok (.iload_n 2, 1) := by decide +kernel
theorem dX4_nextFlow_5 : decode cX4_nextFlow 5 = .ok (.iconst 0, 1) := by decide +kernel
theorem dX4_nextFlow_6 : decode cX4_nextFlow 6 = .ok (.sipush 3100, 3) := by decide +kernel
theorem dX4_nextFlow_9 : decode cX4_nextFlow 9 = .ok (.invokestatic 37, 3) := by decide +kernel
theorem dX4_nextFlow_12 : decode cX4_nextFlow 12 = .ok (.iconst (-1), 1) := by decide +kernel
theorem dX4_nextFlow_13 : decode cX4_nextFlow 13 = .ok (.istore_n 3, 1) := by decide +kernel
theorem dX4_nextFlow_14 : decode cX4_nextFlow 14 = .ok (.iconst 0, 1) := by decide +kernel
theorem dX4_nextFlow_15 : decode cX4_nextFlow 15 = .ok (.istore 4, 2) := by decide +kernel
theorem dX4_nextFlow_17 : decode cX4_nextFlow 17 = .ok (.iload 4, 2) := by decide +kernel
theorem dX4_nextFlow_19 : decode cX4_nextFlow 19 = .ok (.aload_n 0, 1) := by decide +kernel
theorem dX4_nextFlow_20 : decode cX4_nextFlow 20 = .ok (.getfield 26, 3) := by decide +kernel
theorem dX4_nextFlow_23 : decode cX4_nextFlow 23 = .ok (.invokevirtual 85, 3) := by decide +kernel
theorem dX4_nextFlow_26 : decode cX4_nextFlow 26 = .ok (.if_icmp .ge 48, 3) := by decide +kernel
theorem dX4_nextFlow_29 : decode cX4_nextFlow 29 = .ok (.aload_n 0, 1) := by decide +kernel
theorem dX4_nextFlow_30 : decode cX4_nextFlow 30 = .ok (.getfield 26, 3) := by decide +kernel
theorem dX4_nextFlow_33 : decode cX4_nextFlow 33 = .ok (.iload 4, 2) := by decide +kernel
theorem dX4_nextFlow_35 : decode cX4_nextFlow 35 = .ok (.invokevirtual 134, 3) := by decide +kernel
theorem dX4_nextFlow_38 : decode cX4_nextFlow 38 = .ok (.checkcast 90, 3) := by decide +kernel
theorem dX4_nextFlow_41 : decode cX4_nextFlow 41 = .ok (.iload_n 1, 1) := by decide +kernel
theorem dX4_nextFlow_42 : decode cX4_nextFlow 42 = .ok (.iload_n 2, 1) := by decide +kernel
theorem dX4_nextFlow_43 : decode cX4_nextFlow 43 = .ok (.invokevirtual 173, 3) := by decide +kernel
theorem dX4_nextFlow_46 : decode cX4_nextFlow 46 = .ok (.istore 5, 2) := by decide +kernel
theorem dX4_nextFlow_48 : decode cX4_nextFlow 48 = .ok (.iload 5, 2) := by decide +kernel
theorem dX4_nextFlow_50 : decode cX4_nextFlow 50 = .ok (.iconst (-1), 1) := by decide +kernel
theorem dX4_nextFlow_51 : decode cX4_nextFlow 51 = .ok (.if_icmp .eq 17, 3) := by decide +kernel
theorem dX4_nextFlow_54 : decode cX4_nextFlow 54 = .ok (.iload_n 3, 1) := by decide +kernel
theorem dX4_nextFlow_55 : decode cX4_nextFlow 55 = .ok (.iconst (-1), 1) := by decide +kernel
theorem dX4_nextFlow_56 : decode cX4_nextFlow 56 = .ok (.if_icmp .eq 9, 3) := by decide +kernel
theorem dX4_nextFlow_59 : decode cX4_nextFlow 59 = .ok (.iload 5, 2) := by decide +kernel
theorem dX4_nextFlow_61 : decode cX4_nextFlow 61 = .ok (.iload_n 3, 1) := by decide +kernel
theorem dX4_nextFlow_62 : decode cX4_nextFlow 62 = .ok (.if_icmp .ge 6, 3) := by decide +kernel
theorem dX4_nextFlow_65 : decode cX4_nextFlow 65 = .ok (.iload 5, 2) := by decide +kernel
theorem dX4_nextFlow_67 : decode cX4_nextFlow 67 = .ok (.istore_n 3, 1) := by decide +kernel
theorem dX4_nextFlow_68 : decode cX4_nextFlow 68 = .ok (.iinc 4 1, 3) := by decide +kernel
theorem dX4_nextFlow_71 : decode cX4_nextFlow 71 = .ok (.goto (-54), 3) := by decide +kernel
theorem dX4_nextFlow_74 : decode cX4_nextFlow 74 = .ok (.iload_n 3, 1) := by decide +kernel
theorem dX4_nextFlow_75 : decode cX4_nextFlow 75 = .ok (.ireturn, 1) := by decide +kernel
theorem dX4_checkRange_0 : decode cX4_checkRange 0 = .ok (.iload_n 0, 1) := by decide +kernel
theorem dX4_checkRange_1 : decode cX4_checkRange 1 = .ok (.iload_n 1, 1) := by decide +kernel
theorem dX4_checkRange_2 : decode cX4_checkRange 2 = .ok (.if_icmp .lt 8, 3) := by decide +kernel
theorem dX4_checkRange_5 : decode cX4_checkRange 5 = .ok (.iload_n 0, 1) := by decide +kernel
theorem dX4_checkRange_6 : decode cX4_checkRange 6 = .ok (.iload_n 2, 1) := by decide +kernel
theorem dX4_checkRange_7 : decode cX4_checkRange 7 = .ok (.if_icmp .le 13, 3) := by decide +kernel
theorem dX4_checkRange_10 : decode cX4_checkRange 10 = .ok (.new 176, 3) := by decide +kernel
theorem dX4_checkRange_13 : decode cX4_checkRange 13 = .ok (.dup, 1) := by decide +kernel
theorem dX4_checkRange_14 : decode cX4_checkRange 14 = .ok (.ldc 178, 2) := by decide +kernel
theorem dX4_checkRange_16 : decode cX4_checkRange 16 = .ok (.invokespecial 180, 3) := by decide +kernel
theorem dX4_checkRange_19 : decode cX4_checkRange 19 = .ok (.athrow, 1) := by decide +kernel
theorem dX4_checkRange_20 : decode cX4_checkRange 20 = .ok (.return_, 1) := by decide +kernel
theorem dX4_checkSpan_0 : decode cX4_checkSpan 0 = .ok (.iload_n 0, 1) := by decide +kernel
theorem dX4_checkSpan_1 : decode cX4_checkSpan 1 = .ok (.iconst 0, 1) := by decide +kernel
theorem dX4_checkSpan_2 : decode cX4_checkSpan 2 = .ok (.sipush 3100, 3) := by decide +kernel
theorem dX4_checkSpan_5 : decode cX4_checkSpan 5 = .ok (.invokestatic 37, 3) := by decide +kernel
theorem dX4_checkSpan_8 : decode cX4_checkSpan 8 = .ok (.iload_n 1, 1) := by decide +kernel
theorem dX4_checkSpan_9 : decode cX4_checkSpan 9 = .ok (.iload_n 0, 1) := by decide +kernel
theorem dX4_checkSpan_10 : decode cX4_checkSpan 10 = .ok (.iload_n 0, 1) := by decide +kernel
theorem dX4_checkSpan_11 : decode cX4_checkSpan 11 = .ok (.sipush 400, 3) := by decide +kernel
theorem dX4_checkSpan_14 : decode cX4_checkSpan 14 = .ok (.iadd, 1) := by decide +kernel
theorem dX4_checkSpan_15 : decode cX4_checkSpan 15 = .ok (.sipush 3100, 3) := by decide +kernel
theorem dX4_checkSpan_18 : decode cX4_checkSpan 18 = .ok (.invokestatic 181, 3) := by decide +kernel
theorem dX4_checkSpan_21 : decode cX4_checkSpan 21 = .ok (.invokestatic 37, 3) := by decide +kernel
theorem dX4_checkSpan_24 : decode cX4_checkSpan 24 = .ok (.return_, 1) := by decide +kernel
theorem dX4_checkParty_0 : decode cX4_checkParty 0 = .ok (.iload_n 0, 1) := by decide +kernel
theorem dX4_checkParty_1 : decode cX4_checkParty 1 = .ok (.ifCond .lt 8, 3) := by decide +kernel
theorem dX4_checkParty_4 : decode cX4_checkParty 4 = .ok (.iload_n 0, 1) := by decide +kernel
theorem dX4_checkParty_5 : decode cX4_checkParty 5 = .ok (.iconst 4, 1) := by decide +kernel
theorem dX4_checkParty_6 : decode cX4_checkParty 6 = .ok (.if_icmp .lt 13, 3) := by decide +kernel
theorem dX4_checkParty_9 : decode cX4_checkParty 9 = .ok (.new 30, 3) := by decide +kernel
theorem dX4_checkParty_12 : decode cX4_checkParty 12 = .ok (.dup, 1) := by decide +kernel
theorem dX4_checkParty_13 : decode cX4_checkParty 13 = .ok (.ldc 186, 2) := by decide +kernel
theorem dX4_checkParty_15 : decode cX4_checkParty 15 = .ok (.invokespecial 34, 3) := by decide +kernel
theorem dX4_checkParty_18 : decode cX4_checkParty 18 = .ok (.athrow, 1) := by decide +kernel
theorem dX4_checkParty_19 : decode cX4_checkParty 19 = .ok (.return_, 1) := by decide +kernel
theorem dX4_swapAt_0 : decode cX4_swapAt 0 = .ok (.iload_n 1, 1) := by decide +kernel
theorem dX4_swapAt_1 : decode cX4_swapAt 1 = .ok (.ifCond .lt 14, 3) := by decide +kernel
theorem dX4_swapAt_4 : decode cX4_swapAt 4 = .ok (.iload_n 1, 1) := by decide +kernel
theorem dX4_swapAt_5 : decode cX4_swapAt 5 = .ok (.aload_n 0, 1) := by decide +kernel
theorem dX4_swapAt_6 : decode cX4_swapAt 6 = .ok (.getfield 26, 3) := by decide +kernel
theorem dX4_swapAt_9 : decode cX4_swapAt 9 = .ok (.invokevirtual 85, 3) := by decide +kernel
theorem dX4_swapAt_12 : decode cX4_swapAt 12 = .ok (.if_icmp .lt 13, 3) := by decide +kernel
theorem dX4_swapAt_15 : decode cX4_swapAt 15 = .ok (.new 30, 3) := by decide +kernel
theorem dX4_swapAt_18 : decode cX4_swapAt 18 = .ok (.dup, 1) := by decide +kernel
theorem dX4_swapAt_19 : decode cX4_swapAt 19 = .ok (.ldc 188, 2) := by decide +kernel
theorem dX4_swapAt_21 : decode cX4_swapAt 21 = .ok (.invokespecial 34, 3) := by decide +kernel
theorem dX4_swapAt_24 : decode cX4_swapAt 24 = .ok (.athrow, 1) := by decide +kernel
theorem dX4_swapAt_25 : decode cX4_swapAt 25 = .ok (.aload_n 0, 1) := by decide +kernel
theorem dX4_swapAt_26 : decode cX4_swapAt 26 = .ok (.getfield 26, 3) := by decide +kernel
theorem dX4_swapAt_29 : decode cX4_swapAt 29 = .ok (.iload_n 1, 1) := by decide +kernel
theorem dX4_swapAt_30 : decode cX4_swapAt 30 = .ok (.invokevirtual 134, 3) := by decide +kernel
theorem dX4_swapAt_33 : decode cX4_swapAt 33 = .ok (.checkcast 90, 3) := by decide +kernel
theorem dX4_swapAt_36 : decode cX4_swapAt 36 = .ok (.areturn, 1) := by decide +kernel
theorem dX4_swapWithPeriod_0 : decode cX4_swapWithPeriod 0 = .ok (.aload_n 0, 1) := by decide +kernel
theorem dX4_swapWithPeriod_1 : decode cX4_swapWithPeriod 1 = .ok (.iload_n 1, 1) := by decide +kernel
theorem dX4_swapWithPeriod_2 : decode cX4_swapWithPeriod 2 = .ok (.invokevirtual 102, 3) := by decide +kernel
theorem dX4_swapWithPeriod_5 : decode cX4_swapWithPeriod 5 = .ok (.astore_n 3, 1) := by decide +kernel
theorem dX4_swapWithPeriod_6 : decode cX4_swapWithPeriod 6 = .ok (.iload_n 2, 1) := by decide +kernel
theorem dX4_swapWithPeriod_7 : decode cX4_swapWithPeriod 7 = .ok (.ifCond .lt 11, 3) := by decide +kernel
theorem dX4_swapWithPeriod_10 : decode cX4_swapWithPeriod 10 = .ok (.iload_n 2, 1) := by decide +kernel
theorem dX4_swapWithPeriod_11 : decode cX4_swapWithPeriod 11 = .ok (.aload_n 3, 1) := by decide +kernel
theorem dX4_swapWithPeriod_12 : decode cX4_swapWithPeriod 12 = .ok (.getfield 190, 3) := by decide +kernel
theorem dX4_swapWithPeriod_15 : decode cX4_swapWithPeriod 15 = .ok (.if_icmp .lt 13, 3) := by decide +kernel
theorem dX4_swapWithPeriod_18 : decode cX4_swapWithPeriod 18 = .ok (.new 30, 3) := by decide +kernel
theorem dX4_swapWithPeriod_21 : decode cX4_swapWithPeriod 21 = .ok (.dup, 1) := by decide +kernel
theorem dX4_swapWithPeriod_22 : decode cX4_swapWithPeriod 22 = .ok (.ldc 193, 2) := by decide +kernel
theorem dX4_swapWithPeriod_24 : decode cX4_swapWithPeriod 24 = .ok (.invokespecial 34, 3) := by decide +kernel
theorem dX4_swapWithPeriod_27 : decode cX4_swapWithPeriod 27 = .ok (.athrow, 1) := by decide +kernel
theorem dX4_swapWithPeriod_28 : decode cX4_swapWithPeriod 28 = .ok (.aload_n 3, 1) := by decide +kernel
theorem dX4_swapWithPeriod_29 : decode cX4_swapWithPeriod 29 = .ok (.areturn, 1) := by decide +kernel
theorem dX4_rollAllTrades_0 : decode cX4_rollAllTrades 0 = .ok (.iconst 0, 1) := by decide +kernel
theorem dX4_rollAllTrades_1 : decode cX4_rollAllTrades 1 = .ok (.istore_n 1, 1) := by decide +kernel
theorem dX4_rollAllTrades_2 : decode cX4_rollAllTrades 2 = .ok (.iload_n 1, 1) := by decide +kernel
theorem dX4_rollAllTrades_3 : decode cX4_rollAllTrades 3 = .ok (.aload_n 0, 1) := by decide +kernel
theorem dX4_rollAllTrades_4 : decode cX4_rollAllTrades 4 = .ok (.getfield 26, 3) := by decide +kernel
theorem dX4_rollAllTrades_7 : decode cX4_rollAllTrades 7 = .ok (.invokevirtual 85, 3) := by decide +kernel
theorem dX4_rollAllTrades_10 : decode cX4_rollAllTrades 10 = .ok (.if_icmp .ge 27, 3) := by decide +kernel
theorem dX4_rollAllTrades_13 : decode cX4_rollAllTrades 13 = .ok (.aload_n 0, 1) := by decide +kernel
theorem dX4_rollAllTrades_14 : decode cX4_rollAllTrades 14 = .ok (.getfield 26, 3) := by decide +kernel
theorem dX4_rollAllTrades_17 : decode cX4_rollAllTrades 17 = .ok (.iload_n 1, 1) := by decide +kernel
theorem dX4_rollAllTrades_18 : decode cX4_rollAllTrades 18 = .ok (.invokevirtual 134, 3) := by decide +kernel
theorem dX4_rollAllTrades_21 : decode cX4_rollAllTrades 21 = .ok (.checkcast 90, 3) := by decide +kernel
theorem dX4_rollAllTrades_24 : decode cX4_rollAllTrades 24 = .ok (.aload_n 0, 1) := by decide +kernel
theorem dX4_rollAllTrades_25 : decode cX4_rollAllTrades 25 = .ok (.getfield 10, 3) := by decide +kernel
theorem dX4_rollAllTrades_28 : decode cX4_rollAllTrades 28 = .ok (.invokevirtual 95, 3) := by decide +kernel
theorem dX4_rollAllTrades_31 : decode cX4_rollAllTrades 31 = .ok (.iinc 1 1, 3) := by decide +kernel
theorem dX4_rollAllTrades_34 : decode cX4_rollAllTrades 34 = .ok (.goto (-32), 3) := by decide +kernel
theorem dX4_rollAllTrades_37 : decode cX4_rollAllTrades 37 = .ok (.return_, 1) := by decide +kernel
theorem dX4_cashOnDay_0 : decode cX4_cashOnDay 0 = .ok (.lconst 0, 1) := by decide +kernel
theorem dX4_cashOnDay_1 : decode cX4_cashOnDay 1 = .ok (.lstore_n 3, 1) := by decide +kernel
theorem dX4_cashOnDay_2 : decode cX4_cashOnDay 2 = .ok (.iconst 0, 1) := by decide +kernel
theorem dX4_cashOnDay_3 : decode cX4_cashOnDay 3 = .ok (.istore 5, 2) := by decide +kernel
theorem dX4_cashOnDay_5 : decode cX4_cashOnDay 5 = .ok (.iload 5, 2) := by decide +kernel
theorem dX4_cashOnDay_7 : decode cX4_cashOnDay 7 = .ok (.aload_n 0, 1) := by decide +kernel
theorem dX4_cashOnDay_8 : decode cX4_cashOnDay 8 = .ok (.getfield 26, 3) := by decide +kernel
theorem dX4_cashOnDay_11 : decode cX4_cashOnDay 11 = .ok (.invokevirtual 85, 3) := by decide +kernel
theorem dX4_cashOnDay_14 : decode cX4_cashOnDay 14 = .ok (.if_icmp .ge 34, 3) := by decide +kernel
theorem dX4_cashOnDay_17 : decode cX4_cashOnDay 17 = .ok (.lload_n 3, 1) := by decide +kernel
theorem dX4_cashOnDay_18 : decode cX4_cashOnDay 18 = .ok (.aload_n 0, 1) := by decide +kernel
theorem dX4_cashOnDay_19 : decode cX4_cashOnDay 19 = .ok (.getfield 26, 3) := by decide +kernel
theorem dX4_cashOnDay_22 : decode cX4_cashOnDay 22 = .ok (.iload 5, 2) := by decide +kernel
theorem dX4_cashOnDay_24 : decode cX4_cashOnDay 24 = .ok (.invokevirtual 134, 3) := by decide +kernel
theorem dX4_cashOnDay_27 : decode cX4_cashOnDay 27 = .ok (.checkcast 90, 3) := by decide +kernel
theorem dX4_cashOnDay_30 : decode cX4_cashOnDay 30 = .ok (.iload_n 1, 1) := by decide +kernel
theorem dX4_cashOnDay_31 : decode cX4_cashOnDay 31 = .ok (.iload_n 2, 1) := by decide +kernel
theorem dX4_cashOnDay_32 : decode cX4_cashOnDay 32 = .ok (.iload_n 2, 1) := by decide +kernel
theorem dX4_cashOnDay_33 : decode cX4_cashOnDay 33 = .ok (.aload_n 0, 1) := by decide +kernel
theorem dX4_cashOnDay_34 : decode cX4_cashOnDay 34 = .ok (.getfield 19, 3) := by decide +kernel
theorem dX4_cashOnDay_37 : decode cX4_cashOnDay 37 = .ok (.invokevirtual 169, 3) := by decide +kernel
theorem dX4_cashOnDay_40 : decode cX4_cashOnDay 40 = .ok (.ladd, 1) := by decide +kernel
theorem dX4_cashOnDay_41 : decode cX4_cashOnDay 41 = .ok (.lstore_n 3, 1) := by decide +kernel
theorem dX4_cashOnDay_42 : decode cX4_cashOnDay 42 = .ok (.iinc 5 1, 3) := by decide +kernel
theorem dX4_cashOnDay_45 : decode cX4_cashOnDay 45 = .ok (.goto (-40), 3) := by decide +kernel
theorem dX4_cashOnDay_48 : decode cX4_cashOnDay 48 = .ok (.lload_n 3, 1) := by decide +kernel
theorem dX4_cashOnDay_49 : decode cX4_cashOnDay 49 = .ok (.lreturn, 1) := by decide +kernel
theorem dX4_pressPair_0 : decode cX4_pressPair 0 = .ok (.aload_n 0, 1) := by decide +kernel
theorem dX4_pressPair_1 : decode cX4_pressPair 1 = .ok (.aload_n 1, 1) := by decide +kernel
theorem dX4_pressPair_2 : decode cX4_pressPair 2 = .ok (.invokevirtual 195, 3) := by decide +kernel
theorem dX4_pressPair_5 : decode cX4_pressPair 5 = .ok (.ifCond .eq 12, 3) := by decide +kernel
theorem dX4_pressPair_8 : decode cX4_pressPair 8 = .ok (.aload_n 0, 1) := by decide +kernel
theorem dX4_pressPair_9 : decode cX4_pressPair 9 = .ok (.iload_n 2, 1) := by decide +kernel
theorem dX4_pressPair_10 : decode cX4_pressPair 10 = .ok (.aload_n 1, 1) := by decide +kernel
theorem dX4_pressPair_11 : decode cX4_pressPair 11 = .ok (.invokevirtual 199, 3) := by decide +kernel
theorem dX4_pressPair_14 : decode cX4_pressPair 14 = .ok (.ifCond .ne 5, 3) := by decide +kernel
theorem dX4_pressPair_17 : decode cX4_pressPair 17 = .ok (.iconst 0, 1) := by decide +kernel
theorem dX4_pressPair_18 : decode cX4_pressPair 18 = .ok (.ireturn, 1) := by decide +kernel
theorem dX4_pressPair_19 : decode cX4_pressPair 19 = .ok (.aload_n 0, 1) := by decide +kernel
theorem dX4_pressPair_20 : decode cX4_pressPair 20 = .ok (.invokevirtual 121, 3) := by decide +kernel
theorem dX4_pressPair_23 : decode cX4_pressPair 23 = .ok (.aload_n 1, 1) := by decide +kernel
theorem dX4_pressPair_24 : decode cX4_pressPair 24 = .ok (.invokevirtual 121, 3) := by decide +kernel
theorem dX4_pressPair_27 : decode cX4_pressPair 27 = .ok (.invokestatic 181, 3) := by decide +kernel
theorem dX4_pressPair_30 : decode cX4_pressPair 30 = .ok (.istore_n 3, 1) := by decide +kernel
theorem dX4_pressPair_31 : decode cX4_pressPair 31 = .ok (.iload_n 3, 1) := by decide +kernel
theorem dX4_pressPair_32 : decode cX4_pressPair 32 = .ok (.ifCond .gt 5, 3) := by decide +kernel
theorem dX4_pressPair_35 : decode cX4_pressPair 35 = .ok (.iconst 0, 1) := by decide +kernel
theorem dX4_pressPair_36 : decode cX4_pressPair 36 = .ok (.ireturn, 1) := by decide +kernel
theorem dX4_pressPair_37 : decode cX4_pressPair 37 = .ok (.aload_n 0, 1) := by decide +kernel
theorem dX4_pressPair_38 : decode cX4_pressPair 38 = .ok (.getfield 106, 3) := by decide +kernel
theorem dX4_pressPair_41 : decode cX4_pressPair 41 = .ok (.iload_n 2, 1) := by decide +kernel
theorem dX4_pressPair_42 : decode cX4_pressPair 42 = .ok (.iload_n 3, 1) := by decide +kernel
theorem dX4_pressPair_43 : decode cX4_pressPair 43 = .ok (.invokevirtual 58, 3) := by decide +kernel
theorem dX4_pressPair_46 : decode cX4_pressPair 46 = .ok (.aload_n 1, 1) := by decide +kernel
theorem dX4_pressPair_47 : decode cX4_pressPair 47 = .ok (.getfield 106, 3) := by decide +kernel
theorem dX4_pressPair_50 : decode cX4_pressPair 50 = .ok (.iload_n 2, 1) := by decide +kernel
theorem dX4_pressPair_51 : decode cX4_pressPair 51 = .ok (.iload_n 3, 1) := by decide +kernel
theorem dX4_pressPair_52 : decode cX4_pressPair 52 = .ok (.invokevirtual 58, 3) := by decide +kernel
theorem dX4_pressPair_55 : decode cX4_pressPair 55 = .ok (.iload_n 3, 1) := by decide +kernel
theorem dX4_pressPair_56 : decode cX4_pressPair 56 = .ok (.ireturn, 1) := by decide +kernel
end
section
theorem dX5_init_0 : decode cX5_init 0 = .ok (.aload_n 0, 1) := by decide +kernel
theorem dX5_init_1 : decode cX5_init 1 = .ok (.invokespecial 1, 3) := by decide +kernel
theorem dX5_init_4 : decode cX5_init 4 = .ok (.aload_n 0, 1) := by decide +kernel
theorem dX5_init_5 : decode cX5_init 5 = .ok (.sipush 6002, 3) := by decide +kernel
theorem dX5_init_8 : decode cX5_init 8 = .ok (.newarray .boolean, 2) := by decide +kernel
theorem dX5_init_10 : decode cX5_init 10 = .ok (.putfield 7, 3) := by decide +kernel
theorem dX5_init_13 : decode cX5_init 13 = .ok (.aload_n 0, 1) := by decide +kernel
theorem dX5_init_14 : decode cX5_init 14 = .ok (.iconst 2, 1) := by decide +kernel
theorem dX5_init_15 : decode cX5_init 15 = .ok (.newarray .int, 2) := by decide +kernel
theorem dX5_init_17 : decode cX5_init 17 = .ok (.putfield 13, 3) := by decide +kernel
theorem dX5_init_20 : decode cX5_init 20 = .ok (.aload_n 0, 1) := by decide +kernel
theorem dX5_init_21 : decode cX5_init 21 = .ok (.sipush 3001, 3) := by decide +kernel
theorem dX5_init_24 : decode cX5_init 24 = .ok (.newarray .boolean, 2) := by decide +kernel
theorem dX5_init_26 : decode cX5_init 26 = .ok (.putfield 17, 3) := by decide +kernel
theorem dX5_init_29 : decode cX5_init 29 = .ok (.aload_n 0, 1) := by decide +kernel
theorem dX5_init_30 : decode cX5_init 30 = .ok (.sipush 3001, 3) := by decide +kernel
theorem dX5_init_33 : decode cX5_init 33 = .ok (.newarray .int, 2) := by decide +kernel
theorem dX5_init_35 : decode cX5_init 35 = .ok (.putfield 20, 3) := by decide +kernel
theorem dX5_init_38 : decode cX5_init 38 = .ok (.aload_n 0, 1) := by decide +kernel
theorem dX5_init_39 : decode cX5_init 39 = .ok (.bipush 10, 2) := by decide +kernel
theorem dX5_init_41 : decode cX5_init 41 = .ok (.newarray .int, 2) := by decide +kernel
theorem dX5_init_43 : decode cX5_init 43 = .ok (.putfield 23, 3) := by decide +kernel
theorem dX5_init_46 : decode cX5_init 46 = .ok (.aload_n 0, 1) := by decide +kernel
theorem dX5_init_47 : decode cX5_init 47 = .ok (.bipush 10, 2) := by decide +kernel
theorem dX5_init_49 : decode cX5_init 49 = .ok (.newarray .int, 2) := by decide +kernel
theorem dX5_init_51 : decode cX5_init 51 = .ok (.putfield 26, 3) := by decide +kernel
theorem dX5_init_54 : decode cX5_init 54 = .ok (.aload_n 0, 1) := by decide +kernel
theorem dX5_init_55 : decode cX5_init 55 = .ok (.bipush 10, 2) := by decide +kernel
theorem dX5_init_57 : decode cX5_init 57 = .ok (.newarray .boolean, 2) := by decide +kernel
theorem dX5_init_59 : decode cX5_init 59 = .ok (.putfield 29, 3) := by decide +kernel
theorem dX5_init_62 : decode cX5_init 62 = .ok (.aload_n 0, 1) := by decide +kernel
theorem dX5_init_63 : decode cX5_init 63 = .ok (.bipush 10, 2) := by decide +kernel
theorem dX5_init_65 : decode cX5_init 65 = .ok (.newarray .int, 2) := by decide +kernel
theorem dX5_init_67 : decode cX5_init 67 = .ok (.putfield 32, 3) := by decide +kernel
theorem dX5_init_70 : decode cX5_init 70 = .ok (.aload_n 0, 1) := by decide +kernel
theorem dX5_init_71 : decode cX5_init 71 = .ok (.bipush 10, 2) := by decide +kernel
theorem dX5_init_73 : decode cX5_init 73 = .ok (.newarray .int, 2) := by decide +kernel
theorem dX5_init_75 : decode cX5_init 75 = .ok (.putfield 35, 3) := by decide +kernel
theorem dX5_init_78 : decode cX5_init 78 = .ok (.aload_n 0, 1) := by decide +kernel
theorem dX5_init_79 : decode cX5_init 79 = .ok (.bipush 10, 2) := by decide +kernel
theorem dX5_init_81 : decode cX5_init 81 = .ok (.newarray .int, 2) := by decide +kernel
theorem dX5_init_83 : decode cX5_init 83 = .ok (.putfield 38, 3) := by decide +kernel
theorem dX5_init_86 : decode cX5_init 86 = .ok (.aload_n 0, 1) := by decide +kernel
theorem dX5_init_87 : decode cX5_init 87 = .ok (.bipush 10, 2) := by decide +kernel
theorem dX5_init_89 : decode cX5_init 89 = .ok (.newarray .int, 2) := by decide +kernel
theorem dX5_init_91 : decode cX5_init 91 = .ok (.putfield 41, 3) := by decide +kernel
theorem dX5_init_94 : decode cX5_init 94 = .ok (.aload_n 0, 1) := by decide +kernel
theorem dX5_init_95 : decode cX5_init 95 = .ok (.bipush 10, 2) := by decide +kernel
theorem dX5_init_97 : decode cX5_init 97 = .ok (.newarray .int, 2) := by decide +kernel
theorem dX5_init_99 : decode cX5_init 99 = .ok (.putfield 44, 3) := by decide +kernel
theorem dX5_init_102 : decode cX5_init 102 = .ok (.aload_n 0, 1) := by decide +kernel
theorem dX5_init_103 : decode cX5_init 103 = .ok (.bipush 10, 2) := by decide +kernel
theorem dX5_init_105 : decode cX5_init 105 = .ok (.newarray .int, 2) := by decide +kernel
theorem dX5_init_107 : decode cX5_init 107 = .ok (.putfield 47, 3) := by decide +kernel
theorem dX5_init_110 : decode cX5_init 110 = .ok (.aload_n 0, 1) := by decide +kernel
theorem dX5_init_111 : decode cX5_init 111 = .ok (.bipush 10, 2) := by decide +kernel
theorem dX5_init_113 : decode cX5_init 113 = .ok (.newarray .int, 2) := by decide +kernel
theorem dX5_init_115 : decode cX5_init 115 = .ok (.putfield 50, 3) := by decide +kernel
theorem dX5_init_118 : decode cX5_init 118 = .ok (.aload_n 0, 1) := by decide +kernel
theorem dX5_init_119 : decode cX5_init 119 = .ok (.sipush 10000, 3) := by decide +kernel
theorem dX5_init_122 : decode cX5_init 122 = .ok (.newarray .int, 2) := by decide +kernel
theorem dX5_init_124 : decode cX5_init 124 = .ok (.putfield 53, 3) := by decide +kernel
theorem dX5_init_127 : decode cX5_init 127 = .ok (.aload_n 0, 1) := by decide +kernel
theorem dX5_init_128 : decode cX5_init 128 = .ok (.sipush 10000, 3) := by decide +kernel
theorem dX5_init_131 : decode cX5_init 131 = .ok (.newarray .int, 2) := by decide +kernel
theorem dX5_init_133 : decode cX5_init 133 = .ok (.putfield 56, 3) := by decide +kernel
theorem dX5_init_136 : decode cX5_init 136 = .ok (.aload_n 0, 1) := by decide +kernel
theorem dX5_init_137 : decode cX5_init 137 = .ok (.sipush 10000, 3) := by decide +kernel
theorem dX5_init_140 : decode cX5_init 140 = .ok (.newarray .int, 2) := by decide +kernel
theorem dX5_init_142 : decode cX5_init 142 = .ok (.putfield 59, 3) := by decide +kernel
theorem dX5_init_145 : decode cX5_init 145 = .ok (.aload_n 0, 1) := by decide +kernel
theorem dX5_init_146 : decode cX5_init 146 = .ok (.bipush 10, 2) := by decide +kernel
theorem dX5_init_148 : decode cX5_init 148 = .ok (.newarray .int, 2) := by decide +kernel
theorem dX5_init_150 : decode cX5_init 150 = .ok (.putfield 62, 3) := by decide +kernel
theorem dX5_init_153 : decode cX5_init 153 = .ok (.aload_n 0, 1) := by decide +kernel
theorem dX5_init_154 : decode cX5_init 154 = .ok (.bipush 100, 2) := by decide +kernel
theorem dX5_init_156 : decode cX5_init 156 = .ok (.newarray .int, 2) := by decide +kernel
theorem dX5_init_158 : decode cX5_init 158 = .ok (.putfield 65, 3) := by decide +kernel
theorem dX5_init_161 : decode cX5_init 161 = .ok (.aload_n 0, 1) := by decide +kernel
theorem dX5_init_162 : decode cX5_init 162 = .ok (.bipush 100, 2) := by decide +kernel
theorem dX5_init_164 : decode cX5_init 164 = .ok (.newarray .int, 2) := by decide +kernel
theorem dX5_init_166 : decode cX5_init 166 = .ok (.putfield 68, 3) := by decide +kernel
theorem dX5_init_169 : decode cX5_init 169 = .ok (.aload_n 0, 1) := by decide +kernel
theorem dX5_init_170 : decode cX5_init 170 = .ok (.iconst 0, 1) := by decide +kernel
theorem dX5_init_171 : decode cX5_init 171 = .ok (.putfield 71, 3) := by decide +kernel
theorem dX5_init_174 : decode cX5_init 174 = .ok (.return_, 1) := by decide +kernel
theorem dX5_thrown_0 : decode cX5_thrown 0 = .ok (.aload_n 0, 1) := by decide +kernel
theorem dX5_thrown_1 : decode cX5_thrown 1 = .ok (.getfield 71, 3) := by decide +kernel
theorem dX5_thrown_4 : decode cX5_thrown 4 = .ok (.ireturn, 1) := by decide +kernel
theorem dX5_fails_0 : decode cX5_fails 0 = .ok (.aload_n 0, 1) := by decide +kernel
theorem dX5_fails_1 : decode cX5_fails 1 = .ok (.iload_n 1, 1) := by decide +kernel
theorem dX5_fails_2 : decode cX5_fails 2 = .ok (.putfield 71, 3) := by decide +kernel
theorem dX5_fails_5 : decode cX5_fails 5 = .ok (.iconst 0, 1) := by decide +kernel
theorem dX5_fails_6 : decode cX5_fails 6 = .ok (.ireturn, 1) := by decide +kernel
theorem dX5_in_0 : decode cX5_in 0 = .ok (.iload_n 0, 1) := by decide +kernel
theorem dX5_in_1 : decode cX5_in 1 = .ok (.iload_n 1, 1) := by decide +kernel
theorem dX5_in_2 : decode cX5_in 2 = .ok (.if_icmp .lt 12, 3) := by decide +kernel
theorem dX5_in_5 : decode cX5_in 5 = .ok (.iload_n 0, 1) := by decide +kernel
theorem dX5_in_6 : decode cX5_in 6 = .ok (.iload_n 2, 1) := by decide +kernel
theorem dX5_in_7 : decode cX5_in 7 = .ok (.if_icmp .gt 7, 3) := by decide +kernel
theorem dX5_in_10 : decode cX5_in 10 = .ok (.iconst 1, 1) := by decide +kernel
theorem dX5_in_11 : decode cX5_in 11 = .ok (.goto 4, 3) := by decide +kernel
theorem dX5_in_14 : decode cX5_in 14 = .ok (.iconst 0, 1) := by decide +kernel
theorem dX5_in_15 : decode cX5_in 15 = .ok (.ireturn, 1) := by decide +kernel
theorem dX5_isDay_0 : decode cX5_isDay 0 = .ok (.iload_n 0, 1) := by decide +kernel
theorem dX5_isDay_1 : decode cX5_isDay 1 = .ok (.iconst 0, 1) := by decide +kernel
theorem dX5_isDay_2 : decode cX5_isDay 2 = .ok (.sipush 3000, 3) := by decide +kernel
theorem dX5_isDay_5 : decode cX5_isDay 5 = .ok (.invokestatic 75, 3) := by decide +kernel
theorem dX5_isDay_8 : decode cX5_isDay 8 = .ok (.ireturn, 1) := by decide +kernel
theorem dX5_isParty_0 : decode cX5_isParty 0 = .ok (.iload_n 0, 1) := by decide +kernel
theorem dX5_isParty_1 : decode cX5_isParty 1 = .ok (.iconst 0, 1) := by decide +kernel
theorem dX5_isParty_2 : decode cX5_isParty 2 = .ok (.iconst 3, 1) := by decide +kernel
theorem dX5_isParty_3 : decode cX5_isParty 3 = .ok (.invokestatic 75, 3) := by decide +kernel
theorem dX5_isParty_6 : decode cX5_isParty 6 = .ok (.ireturn, 1) := by decide +kernel
theorem dX5_isTrade_0 : decode cX5_isTrade 0 = .ok (.iload_n 1, 1) := by decide +kernel
theorem dX5_isTrade_1 : decode cX5_isTrade 1 = .ok (.iconst 0, 1) := by decide +kernel
theorem dX5_isTrade_2 : decode cX5_isTrade 2 = .ok (.aload_n 0, 1) := by decide +kernel
theorem dX5_isTrade_3 : decode cX5_isTrade 3 = .ok (.getfield 79, 3) := by decide +kernel
theorem dX5_isTrade_6 : decode cX5_isTrade 6 = .ok (.iconst 1, 1) := by decide +kernel
theorem dX5_isTrade_7 : decode cX5_isTrade 7 = .ok (.isub, 1) := by decide +kernel
theorem dX5_isTrade_8 : decode cX5_isTrade 8 = .ok (.invokestatic 75, 3) := by decide +kernel
theorem dX5_isTrade_11 : decode cX5_isTrade 11 = .ok (.ireturn, 1) := by decide +kernel
theorem dX5_isPeriod_0 : decode cX5_isPeriod 0 = .ok (.aload_n 0, 1) := by decide +kernel
theorem dX5_isPeriod_1 : decode cX5_isPeriod 1 = .ok (.aload_n 0, 1) := by decide +kernel
theorem dX5_isPeriod_2 : decode cX5_isPeriod 2 = .ok (.iload_n 1, 1) := by decide +kernel
theorem dX5_isPeriod_3 : decode cX5_isPeriod 3 = .ok (.invokevirtual 82, 3) := by decide +kernel
theorem dX5_isPeriod_6 : decode cX5_isPeriod 6 = .ok (.ifCond .eq 23, 3) := by decide +kernel
theorem dX5_isPeriod_9 : decode cX5_isPeriod 9 = .ok (.iload_n 2, 1) := by decide +kernel
theorem dX5_isPeriod_10 : decode cX5_isPeriod 10 = .ok (.iconst 0, 1) := by decide +kernel
theorem dX5_isPeriod_11 : decode cX5_isPeriod 11 = .ok (.aload_n 0, 1) := by decide +kernel
theorem dX5_isPeriod_12 : decode cX5_isPeriod 12 = .ok (.getfield 41, 3) := by decide +kernel
theorem dX5_isPeriod_15 : decode cX5_isPeriod 15 = .ok (.iload_n 1, 1) := by decide +kernel
theorem dX5_isPeriod_16 : decode cX5_isPeriod 16 = .ok (.iaload, 1) := by decide +kernel
theorem dX5_isPeriod_17 : decode cX5_isPeriod 17 = .ok (.iconst 1, 1) := by decide +kernel
theorem dX5_isPeriod_18 : decode cX5_isPeriod 18 = .ok (.isub, 1) := by decide +kernel
theorem dX5_isPeriod_19 : decode cX5_isPeriod 19 = .ok (.invokestatic 75, 3) := by decide +kernel
theorem dX5_isPeriod_22 : decode cX5_isPeriod 22 = .ok (.ifCond .eq 7, 3) := by decide +kernel
theorem dX5_isPeriod_25 : decode cX5_isPeriod 25 = .ok (.iconst 0, 1) := by decide +kernel
theorem dX5_isPeriod_26 : decode cX5_isPeriod 26 = .ok (.goto 4, 3) := by decide +kernel
theorem dX5_isPeriod_29 : decode cX5_isPeriod 29 = .ok (.iconst 1, 1) := by decide +kernel
theorem dX5_isPeriod_30 : decode cX5_isPeriod 30 = .ok (.putfield 71, 3) := by decide +kernel
theorem dX5_isPeriod_33 : decode cX5_isPeriod 33 = .ok (.aload_n 0, 1) := by decide +kernel
theorem dX5_isPeriod_34 : decode cX5_isPeriod 34 = .ok (.getfield 71, 3) := by decide +kernel
theorem dX5_isPeriod_37 : decode cX5_isPeriod 37 = .ok (.ifCond .ne 7, 3) := by decide +kernel
theorem dX5_isPeriod_40 : decode cX5_isPeriod 40 = .ok (.iconst 1, 1) := by decide +kernel
theorem dX5_isPeriod_41 : decode cX5_isPeriod 41 = .ok (.goto 4, 3) := by decide +kernel
theorem dX5_isPeriod_44 : decode cX5_isPeriod 44 = .ok (.iconst 0, 1) := by decide +kernel
theorem dX5_isPeriod_45 : decode cX5_isPeriod 45 = .ok (.ireturn, 1) := by decide +kernel
theorem dX5_opens_0 : decode cX5_opens 0 = .ok (.iload_n 1, 1) := by decide +kernel
theorem dX5_opens_1 : decode cX5_opens 1 = .ok (.bipush 7, 2) := by decide +kernel
theorem dX5_opens_3 : decode cX5_opens 3 = .ok (.irem, 1) := by decide +kernel
theorem dX5_opens_4 : decode cX5_opens 4 = .ok (.iconst 5, 1) := by decide +kernel
theorem dX5_opens_5 : decode cX5_opens 5 = .ok (.if_icmp .ge 36, 3) := by decide +kernel
theorem dX5_opens_8 : decode cX5_opens 8 = .ok (.iload_n 1, 1) := by decide +kernel
theorem dX5_opens_9 : decode cX5_opens 9 = .ok (.sipush 3001, 3) := by decide +kernel
theorem dX5_opens_12 : decode cX5_opens 12 = .ok (.if_icmp .ge 25, 3) := by decide +kernel
theorem dX5_opens_15 : decode cX5_opens 15 = .ok (.aload_n 0, 1) := by decide +kernel
theorem dX5_opens_16 : decode cX5_opens 16 = .ok (.getfield 7, 3) := by decide +kernel
theorem dX5_opens_19 : decode cX5_opens 19 = .ok (.iload_n 1, 1) := by decide +kernel
theorem dX5_opens_20 : decode cX5_opens 20 = .ok (.baload, 1) := by decide +kernel
theorem dX5_opens_21 : decode cX5_opens 21 = .ok (.ifCond .ne 20, 3) := by decide +kernel
theorem dX5_opens_24 : decode cX5_opens 24 = .ok (.aload_n 0, 1) := by decide +kernel
theorem dX5_opens_25 : decode cX5_opens 25 = .ok (.getfield 7, 3) := by decide +kernel
theorem dX5_opens_28 : decode cX5_opens 28 = .ok (.sipush 3001, 3) := by decide +kernel
theorem dX5_opens_31 : decode cX5_opens 31 = .ok (.iload_n 1, 1) := by decide +kernel
theorem dX5_opens_32 : decode cX5_opens 32 = .ok (.iadd, 1) := by decide +kernel
theorem dX5_opens_33 : decode cX5_opens 33 = .ok (.baload, 1) := by decide +kernel
theorem dX5_opens_34 : decode cX5_opens 34 = .ok (.ifCond .ne 7, 3) := by decide +kernel
theorem dX5_opens_37 : decode cX5_opens 37 = .ok (.iconst 1, 1) := by decide +kernel
theorem dX5_opens_38 : decode cX5_opens 38 = .ok (.goto 4, 3) := by decide +kernel
theorem dX5_opens_41 : decode cX5_opens 41 = .ok (.iconst 0, 1) := by decide +kernel
theorem dX5_opens_42 : decode cX5_opens 42 = .ok (.ireturn, 1) := by decide +kernel
theorem dX5_rolled_0 : decode cX5_rolled 0 = .ok (.iload_n 1, 1) := by decide +kernel
theorem dX5_rolled_1 : decode cX5_rolled 1 = .ok (.istore_n 2, 1) := by decide +kernel
theorem dX5_rolled_2 : decode cX5_rolled 2 = .ok (.aload_n 0, 1) := by decide +kernel
theorem dX5_rolled_3 : decode cX5_rolled 3 = .ok (.iload_n 2, 1) := by decide +kernel
theorem dX5_rolled_4 : decode cX5_rolled 4 = .ok (.invokevirtual 86, 3) := by decide +kernel
theorem dX5_rolled_7 : decode cX5_rolled 7 = .ok (.ifCond .ne 9, 3) := by decide +kernel
theorem dX5_rolled_10 : decode cX5_rolled 10 = .ok (.iinc 2 1, 3) := by decide +kernel
theorem dX5_rolled_13 : decode cX5_rolled 13 = .ok (.goto (-11), 3) := by decide +kernel
theorem dX5_rolled_16 : decode cX5_rolled 16 = .ok (.iload_n 2, 1) := by decide +kernel
theorem dX5_rolled_17 : decode cX5_rolled 17 = .ok (.ireturn, 1) := by decide +kernel
theorem dX5_rate_0 : decode cX5_rate 0 = .ok (.iload_n 1, 1) := by decide +kernel
theorem dX5_rate_1 : decode cX5_rate 1 = .ok (.sipush 3001, 3) := by decide +kernel
theorem dX5_rate_4 : decode cX5_rate 4 = .ok (.if_icmp .ge 7, 3) := by decide +kernel
theorem dX5_rate_7 : decode cX5_rate 7 = .ok (.iload_n 1, 1) := by decide +kernel
theorem dX5_rate_8 : decode cX5_rate 8 = .ok (.goto 6, 3) := by decide +kernel
theorem dX5_rate_11 : decode cX5_rate 11 = .ok (.sipush 3000, 3) := by decide +kernel
theorem dX5_rate_14 : decode cX5_rate 14 = .ok (.istore_n 2, 1) := by decide +kernel
theorem dX5_rate_15 : decode cX5_rate 15 = .ok (.iload_n 2, 1) := by decide +kernel
theorem dX5_rate_16 : decode cX5_rate 16 = .ok (.ifCond .lt 18, 3) := by decide +kernel
theorem dX5_rate_19 : decode cX5_rate 19 = .ok (.aload_n 0, 1) := by decide +kernel
theorem dX5_rate_20 : decode cX5_rate 20 = .ok (.getfield 17, 3) := by decide +kernel
theorem dX5_rate_23 : decode cX5_rate 23 = .ok (.iload_n 2, 1) := by decide +kernel
theorem dX5_rate_24 : decode cX5_rate 24 = .ok (.baload, 1) := by decide +kernel
theorem dX5_rate_25 : decode cX5_rate 25 = .ok (.ifCond .ne 9, 3) := by decide +kernel
theorem dX5_rate_28 : decode cX5_rate 28 = .ok (.iinc 2 (-1), 3) := by decide +kernel
theorem dX5_rate_31 : decode cX5_rate 31 = .ok (.goto (-16), 3) := by decide +kernel
theorem dX5_rate_34 : decode cX5_rate 34 = .ok (.iload_n 2, 1) := by decide +kernel
theorem dX5_rate_35 : decode cX5_rate 35 = .ok (.ifCond .ge 7, 3) := by decide +kernel
theorem dX5_rate_38 : decode cX5_rate 38 = .ok (.iconst 0, 1) := by decide +kernel
theorem dX5_rate_39 : decode cX5_rate 39 = .ok (.goto 9, 3) := by decide +kernel
theorem dX5_rate_42 : decode cX5_rate 42 = .ok (.aload_n 0, 1) := by decide +kernel
theorem dX5_rate_43 : decode cX5_rate 43 = .ok (.getfield 20, 3) := by decide +kernel
theorem dX5_rate_46 : decode cX5_rate 46 = .ok (.iload_n 2, 1) := by decide +kernel
theorem dX5_rate_47 : decode cX5_rate 47 = .ok (.iaload, 1) := by decide +kernel
theorem dX5_rate_48 : decode cX5_rate 48 = .ok (.ireturn, 1) := by decide +kernel
theorem dX5_holiday_0 : decode cX5_holiday 0 = .ok (.aload_n 0, 1) := by decide +kernel
theorem dX5_holiday_1 : decode cX5_holiday 1 = .ok (.iload_n 1, 1) := by decide +kernel
theorem dX5_holiday_2 : decode cX5_holiday 2 = .ok (.iconst 0, 1) := by decide +kernel
theorem dX5_holiday_3 : decode cX5_holiday 3 = .ok (.iconst 1, 1) := by decide +kernel
theorem dX5_holiday_4 : decode cX5_holiday 4 = .ok (.invokestatic 75, 3) := by decide +kernel
theorem dX5_holiday_7 : decode cX5_holiday 7 = .ok (.ifCond .ne 7, 3) := by decide +kernel
theorem dX5_holiday_10 : decode cX5_holiday 10 = .ok (.iconst 1, 1) := by decide +kernel
theorem dX5_holiday_11 : decode cX5_holiday 11 = .ok (.goto 45, 3) := by decide +kernel
theorem dX5_holiday_14 : decode cX5_holiday 14 = .ok (.iload_n 2, 1) := by decide +kernel
theorem dX5_holiday_15 : decode cX5_holiday 15 = .ok (.invokestatic 89, 3) := by decide +kernel
theorem dX5_holiday_18 : decode cX5_holiday 18 = .ok (.ifCond .ne 7, 3) := by decide +kernel
theorem dX5_holiday_21 : decode cX5_holiday 21 = .ok (.iconst 2, 1) := by decide +kernel
theorem dX5_holiday_22 : decode cX5_holiday 22 = .ok (.goto 34, 3) := by decide +kernel
theorem dX5_holiday_25 : decode cX5_holiday 25 = .ok (.aload_n 0, 1) := by decide +kernel
theorem dX5_holiday_26 : decode cX5_holiday 26 = .ok (.getfield 7, 3) := by decide +kernel
theorem dX5_holiday_29 : decode cX5_holiday 29 = .ok (.sipush 3001, 3) := by decide +kernel
theorem dX5_holiday_32 : decode cX5_holiday 32 = .ok (.iload_n 1, 1) := by decide +kernel
theorem dX5_holiday_33 : decode cX5_holiday 33 = .ok (.imul, 1) := by decide +kernel
theorem dX5_holiday_34 : decode cX5_holiday 34 = .ok (.iload_n 2, 1) := by decide +kernel
theorem dX5_holiday_35 : decode cX5_holiday 35 = .ok (.iadd, 1) := by decide +kernel
theorem dX5_holiday_36 : decode cX5_holiday 36 = .ok (.baload, 1) := by decide +kernel
theorem dX5_holiday_37 : decode cX5_holiday 37 = .ok (.ifCond .ne 14, 3) := by decide +kernel
theorem dX5_holiday_40 : decode cX5_holiday 40 = .ok (.aload_n 0, 1) := by decide +kernel
theorem dX5_holiday_41 : decode cX5_holiday 41 = .ok (.getfield 13, 3) := by decide +kernel
theorem dX5_holiday_44 : decode cX5_holiday 44 = .ok (.iload_n 1, 1) := by decide +kernel
theorem dX5_holiday_45 : decode cX5_holiday 45 = .ok (.iaload, 1) := by decide +kernel
theorem dX5_holiday_46 : decode cX5_holiday 46 = .ok (.bipush 20, 2) := by decide +kernel
theorem dX5_holiday_48 : decode cX5_holiday 48 = .ok (.if_icmp .ne 7, 3) := by decide +kernel
theorem dX5_holiday_51 : decode cX5_holiday 51 = .ok (.iconst 3, 1) := by decide +kernel
theorem dX5_holiday_52 : decode cX5_holiday 52 = .ok (.goto 4, 3) := by decide +kernel
theorem dX5_holiday_55 : decode cX5_holiday 55 = .ok (.iconst 0, 1) := by decide +kernel
theorem dX5_holiday_56 : decode cX5_holiday 56 = .ok (.putfield 71, 3) := by decide +kernel
theorem dX5_holiday_59 : decode cX5_holiday 59 = .ok (.aload_n 0, 1) := by decide +kernel
theorem dX5_holiday_60 : decode cX5_holiday 60 = .ok (.getfield 71, 3) := by decide +kernel
theorem dX5_holiday_63 : decode cX5_holiday 63 = .ok (.ifCond .le 5, 3) := by decide +kernel
theorem dX5_holiday_66 : decode cX5_holiday 66 = .ok (.iconst 0, 1) := by decide +kernel
theorem dX5_holiday_67 : decode cX5_holiday 67 = .ok (.ireturn, 1) := by decide +kernel
theorem dX5_holiday_68 : decode cX5_holiday 68 = .ok (.aload_n 0, 1) := by decide +kernel
theorem dX5_holiday_69 : decode cX5_holiday 69 = .ok (.getfield 7, 3) := by decide +kernel
theorem dX5_holiday_72 : decode cX5_holiday 72 = .ok (.sipush 3001, 3) := by decide +kernel
theorem dX5_holiday_75 : decode cX5_holiday 75 = .ok (.iload_n 1, 1) := by decide +kernel
theorem dX5_holiday_76 : decode cX5_holiday 76 = .ok (.imul, 1) := by decide +kernel
theorem dX5_holiday_77 : decode cX5_holiday 77 = .ok (.iload_n 2, 1) := by decide +kernel
theorem dX5_holiday_78 : decode cX5_holiday 78 = .ok (.iadd, 1) := by decide +kernel
theorem dX5_holiday_79 : decode cX5_holiday 79 = .ok (.iconst 1, 1) := by decide +kernel
theorem dX5_holiday_80 : decode cX5_holiday 80 = .ok (.bastore, 1) := by decide +kernel
theorem dX5_holiday_81 : decode cX5_holiday 81 = .ok (.aload_n 0, 1) := by decide +kernel
theorem dX5_holiday_82 : decode cX5_holiday 82 = .ok (.getfield 13, 3) := by decide +kernel
theorem dX5_holiday_85 : decode cX5_holiday 85 = .ok (.iload_n 1, 1) := by decide +kernel
theorem dX5_holiday_86 : decode cX5_holiday 86 = .ok (.dup2, 1) := by decide +kernel
theorem dX5_holiday_87 : decode cX5_holiday 87 = .ok (.iaload, 1) := by decide +kernel
theorem dX5_holiday_88 : decode cX5_holiday 88 = .ok (.iconst 1, 1) := by decide +kernel
theorem dX5_holiday_89 : decode cX5_holiday 89 = .ok (.iadd, 1) := by decide +kernel
theorem dX5_holiday_90 : decode cX5_holiday 90 = .ok (.iastore, 1) := by decide +kernel
theorem dX5_holiday_91 : decode cX5_holiday 91 = .ok (.aload_n 0, 1) := by decide +kernel
theorem dX5_holiday_92 : decode cX5_holiday 92 = .ok (.getfield 13, 3) := by decide +kernel
theorem dX5_holiday_95 : decode cX5_holiday 95 = .ok (.iload_n 1, 1) := by decide +kernel
theorem dX5_holiday_96 : decode cX5_holiday 96 = .ok (.iaload, 1) := by decide +kernel
theorem dX5_holiday_97 : decode cX5_holiday 97 = .ok (.ireturn, 1) := by decide +kernel
theorem dX5_isOpen_0 : decode cX5_isOpen 0 = .ok (.aload_n 0, 1) := by decide +kernel
theorem dX5_isOpen_1 : decode cX5_isOpen 1 = .ok (.iload_n 1, 1) := by decide +kernel
theorem dX5_isOpen_2 : decode cX5_isOpen 2 = .ok (.invokestatic 89, 3) := by decide +kernel
theorem dX5_isOpen_5 : decode cX5_isOpen 5 = .ok (.ifCond .eq 7, 3) := by decide +kernel
theorem dX5_isOpen_8 : decode cX5_isOpen 8 = .ok (.iconst 0, 1) := by decide +kernel
theorem dX5_isOpen_9 : decode cX5_isOpen 9 = .ok (.goto 4, 3) := by decide +kernel
theorem dX5_isOpen_12 : decode cX5_isOpen 12 = .ok (.iconst 1, 1) := by decide +kernel
theorem dX5_isOpen_13 : decode cX5_isOpen 13 = .ok (.putfield 71, 3) := by decide +kernel
theorem dX5_isOpen_16 : decode cX5_isOpen 16 = .ok (.aload_n 0, 1) := by decide +kernel
theorem dX5_isOpen_17 : decode cX5_isOpen 17 = .ok (.getfield 71, 3) := by decide +kernel
theorem dX5_isOpen_20 : decode cX5_isOpen 20 = .ok (.ifCond .ne 15, 3) := by decide +kernel
theorem dX5_isOpen_23 : decode cX5_isOpen 23 = .ok (.aload_n 0, 1) := by decide +kernel
theorem dX5_isOpen_24 : decode cX5_isOpen 24 = .ok (.iload_n 1, 1) := by decide +kernel
theorem dX5_isOpen_25 : decode cX5_isOpen 25 = .ok (.invokevirtual 86, 3) := by decide +kernel
theorem dX5_isOpen_28 : decode cX5_isOpen 28 = .ok (.ifCond .eq 7, 3) := by decide +kernel
theorem dX5_isOpen_31 : decode cX5_isOpen 31 = .ok (.iconst 1, 1) := by decide +kernel
theorem dX5_isOpen_32 : decode cX5_isOpen 32 = .ok (.goto 4, 3) := by decide +kernel
theorem dX5_isOpen_35 : decode cX5_isOpen 35 = .ok (.iconst 0, 1) := by decide +kernel
theorem dX5_isOpen_36 : decode cX5_isOpen 36 = .ok (.ireturn, 1) := by decide +kernel
theorem dX5_roll_0 : decode cX5_roll 0 = .ok (.aload_n 0, 1) := by decide +kernel
theorem dX5_roll_1 : decode cX5_roll 1 = .ok (.iconst 0, 1) := by decide +kernel
theorem dX5_roll_2 : decode cX5_roll 2 = .ok (.putfield 71, 3) := by decide +kernel
theorem dX5_roll_5 : decode cX5_roll 5 = .ok (.iload_n 1, 1) := by decide +kernel
theorem dX5_roll_6 : decode cX5_roll 6 = .ok (.invokestatic 89, 3) := by decide +kernel
theorem dX5_roll_9 : decode cX5_roll 9 = .ok (.ifCond .eq 11, 3) := by decide +kernel
theorem dX5_roll_12 : decode cX5_roll 12 = .ok (.aload_n 0, 1) := by decide +kernel
theorem dX5_roll_13 : decode cX5_roll 13 = .ok (.iload_n 1, 1) := by decide +kernel
theorem dX5_roll_14 : decode cX5_roll 14 = .ok (.invokevirtual 92, 3) := by decide +kernel
theorem dX5_roll_17 : decode cX5_roll 17 = .ok (.goto 8, 3) := by decide +kernel
theorem dX5_roll_20 : decode cX5_roll 20 = .ok (.aload_n 0, 1) := by decide +kernel
theorem dX5_roll_21 : decode cX5_roll 21 = .ok (.iconst 1, 1) := by decide +kernel
theorem dX5_roll_22 : decode cX5_roll 22 = .ok (.invokevirtual 96, 3) := by decide +kernel
theorem dX5_roll_25 : decode cX5_roll 25 = .ok (.ireturn, 1) := by decide +kernel
theorem dX5_fix_0 : decode cX5_fix 0 = .ok (.aload_n 0, 1) := by decide +kernel
theorem dX5_fix_1 : decode cX5_fix 1 = .ok (.iload_n 1, 1) := by decide +kernel
theorem dX5_fix_2 : decode cX5_fix 2 = .ok (.invokestatic 89, 3) := by decide +kernel
theorem dX5_fix_5 : decode cX5_fix 5 = .ok (.ifCond .eq 16, 3) := by decide +kernel
theorem dX5_fix_8 : decode cX5_fix 8 = .ok (.iload_n 2, 1) := by decide +kernel
theorem dX5_fix_9 : decode cX5_fix 9 = .ok (.sipush (-500), 3) := by decide +kernel
theorem dX5_fix_12 : decode cX5_fix 12 = .ok (.sipush 2000, 3) := by decide +kernel
theorem dX5_fix_15 : decode cX5_fix 15 = .ok (.invokestatic 75, 3) := by decide +kernel
theorem dX5_fix_18 : decode cX5_fix 18 = .ok (.ifCond .ne 7, 3) := by decide +kernel
theorem dX5_fix_21 : decode cX5_fix 21 = .ok (.iconst 1, 1) := by decide +kernel
theorem dX5_fix_22 : decode cX5_fix 22 = .ok (.goto 26, 3) := by decide +kernel
theorem dX5_fix_25 : decode cX5_fix 25 = .ok (.aload_n 0, 1) := by decide +kernel
theorem dX5_fix_26 : decode cX5_fix 26 = .ok (.getfield 17, 3) := by decide +kernel
theorem dX5_fix_29 : decode cX5_fix 29 = .ok (.iload_n 1, 1) := by decide +kernel
theorem dX5_fix_30 : decode cX5_fix 30 = .ok (.baload, 1) := by decide +kernel
theorem dX5_fix_31 : decode cX5_fix 31 = .ok (.ifCond .ne 16, 3) := by decide +kernel
theorem dX5_fix_34 : decode cX5_fix 34 = .ok (.aload_n 0, 1) := by decide +kernel
theorem dX5_fix_35 : decode cX5_fix 35 = .ok (.getfield 99, 3) := by decide +kernel
theorem dX5_fix_38 : decode cX5_fix 38 = .ok (.bipush 60, 2) := by decide +kernel
theorem dX5_fix_40 : decode cX5_fix 40 = .ok (.if_icmp .ne 7, 3) := by decide +kernel
theorem dX5_fix_43 : decode cX5_fix 43 = .ok (.iconst 2, 1) := by decide +kernel
theorem dX5_fix_44 : decode cX5_fix 44 = .ok (.goto 4, 3) := by decide +kernel
theorem dX5_fix_47 : decode cX5_fix 47 = .ok (.iconst 0, 1) := by decide +kernel
theorem dX5_fix_48 : decode cX5_fix 48 = .ok (.putfield 71, 3) := by decide +kernel
theorem dX5_fix_51 : decode cX5_fix 51 = .ok (.aload_n 0, 1) := by decide +kernel
theorem dX5_fix_52 : decode cX5_fix 52 = .ok (.getfield 71, 3) := by decide +kernel
theorem dX5_fix_55 : decode cX5_fix 55 = .ok (.ifCond .le 5, 3) := by decide +kernel
theorem dX5_fix_58 : decode cX5_fix 58 = .ok (.iconst 0, 1) := by decide +kernel
theorem dX5_fix_59 : decode cX5_fix 59 = .ok (.ireturn, 1) := by decide +kernel
theorem dX5_fix_60 : decode cX5_fix 60 = .ok (.aload_n 0, 1) := by decide +kernel
theorem dX5_fix_61 : decode cX5_fix 61 = .ok (.dup, 1) := by decide +kernel
theorem dX5_fix_62 : decode cX5_fix 62 = .ok (.getfield 99, 3) := by decide +kernel
theorem dX5_fix_65 : decode cX5_fix 65 = .ok (.aload_n 0, 1) := by decide +kernel
theorem dX5_fix_66 : decode cX5_fix 66 = .ok (.getfield 17, 3) := by decide +kernel
theorem dX5_fix_69 : decode cX5_fix 69 = .ok (.iload_n 1, 1) := by decide +kernel
theorem dX5_fix_70 : decode cX5_fix 70 = .ok (.baload, 1) := by decide +kernel
theorem dX5_fix_71 : decode cX5_fix 71 = .ok (.ifCond .eq 7, 3) := by decide +kernel
theorem dX5_fix_74 : decode cX5_fix 74 = .ok (.iconst 0, 1) := by decide +kernel
theorem dX5_fix_75 : decode cX5_fix 75 = .ok (.goto 4, 3) := by decide +kernel
theorem dX5_fix_78 : decode cX5_fix 78 = .ok (.iconst 1, 1) := by decide +kernel
theorem dX5_fix_79 : decode cX5_fix 79 = .ok (.iadd, 1) := by decide +kernel
theorem dX5_fix_80 : decode cX5_fix 80 = .ok (.putfield 99, 3) := by decide +kernel
theorem dX5_fix_83 : decode cX5_fix 83 = .ok (.aload_n 0, 1) := by decide +kernel
theorem dX5_fix_84 : decode cX5_fix 84 = .ok (.getfield 17, 3) := by decide +kernel
theorem dX5_fix_87 : decode cX5_fix 87 = .ok (.iload_n 1, 1) := by decide +kernel
theorem dX5_fix_88 : decode cX5_fix 88 = .ok (.iconst 1, 1) := by decide +kernel
theorem dX5_fix_89 : decode cX5_fix 89 = .ok (.bastore, 1) := by decide +kernel
theorem dX5_fix_90 : decode cX5_fix 90 = .ok (.aload_n 0, 1) := by decide +kernel
theorem dX5_fix_91 : decode cX5_fix 91 = .ok (.getfield 20, 3) := by decide +kernel
theorem dX5_fix_94 : decode cX5_fix 94 = .ok (.iload_n 1, 1) := by decide +kernel
theorem dX5_fix_95 : decode cX5_fix 95 = .ok (.iload_n 2, 1) := by decide +kernel
theorem dX5_fix_96 : decode cX5_fix 96 = .ok (.iastore, 1) := by decide +kernel
theorem dX5_fix_97 : decode cX5_fix 97 = .ok (.aload_n 0, 1) := by decide +kernel
theorem dX5_fix_98 : decode cX5_fix 98 = .ok (.getfield 99, 3) := by decide +kernel
theorem dX5_fix_101 : decode cX5_fix 101 = .ok (.ireturn, 1) := by decide +kernel
theorem dX5_rateFor_0 : decode cX5_rateFor 0 = .ok (.aload_n 0, 1) := by decide +kernel
theorem dX5_rateFor_1 : decode cX5_rateFor 1 = .ok (.iconst 0, 1) := by decide +kernel
theorem dX5_rateFor_2 : decode cX5_rateFor 2 = .ok (.putfield 71, 3) := by decide +kernel
theorem dX5_rateFor_5 : decode cX5_rateFor 5 = .ok (.iload_n 1, 1) := by decide +kernel
theorem dX5_rateFor_6 : decode cX5_rateFor 6 = .ok (.invokestatic 89, 3) := by decide +kernel
theorem dX5_rateFor_9 : decode cX5_rateFor 9 = .ok (.ifCond .eq 11, 3) := by decide +kernel
theorem dX5_rateFor_12 : decode cX5_rateFor 12 = .ok (.aload_n 0, 1) := by decide +kernel
theorem dX5_rateFor_13 : decode cX5_rateFor 13 = .ok (.iload_n 1, 1) := by decide +kernel
theorem dX5_rateFor_14 : decode cX5_rateFor 14 = .ok (.invokevirtual 102, 3) := by decide +kernel
theorem dX5_rateFor_17 : decode cX5_rateFor 17 = .ok (.goto 8, 3) := by decide +kernel
theorem dX5_rateFor_20 : decode cX5_rateFor 20 = .ok (.aload_n 0, 1) := by decide +kernel
theorem dX5_rateFor_21 : decode cX5_rateFor 21 = .ok (.iconst 1, 1) := by decide +kernel
theorem dX5_rateFor_22 : decode cX5_rateFor 22 = .ok (.invokevirtual 96, 3) := by decide +kernel
theorem dX5_rateFor_25 : decode cX5_rateFor 25 = .ok (.ireturn, 1) := by decide +kernel
theorem dX5_trade_0 : decode cX5_trade 0 = .ok (.iload_n 2, 1) := by decide +kernel
theorem dX5_trade_1 : decode cX5_trade 1 = .ok (.iconst 1, 1) := by decide +kernel
theorem dX5_trade_2 : decode cX5_trade 2 = .ok (.sipush 1000, 3) := by decide +kernel
theorem dX5_trade_5 : decode cX5_trade 5 = .ok (.invokestatic 75, 3) := by decide +kernel
theorem dX5_trade_8 : decode cX5_trade 8 = .ok (.ifCond .eq 56, 3) := by decide +kernel
theorem dX5_trade_11 : decode cX5_trade 11 = .ok (.iload 4, 2) := by decide +kernel
theorem dX5_trade_13 : decode cX5_trade 13 = .ok (.sipush (-500), 3) := by decide +kernel
theorem dX5_trade_16 : decode cX5_trade 16 = .ok (.sipush 2000, 3) := by decide +kernel
theorem dX5_trade_19 : decode cX5_trade 19 = .ok (.invokestatic 75, 3) := by decide +kernel
theorem dX5_trade_22 : decode cX5_trade 22 = .ok (.ifCond .eq 42, 3) := by decide +kernel
theorem dX5_trade_25 : decode cX5_trade 25 = .ok (.iload 5, 2) := by decide +kernel
theorem dX5_trade_27 : decode cX5_trade 27 = .ok (.iconst 0, 1) := by decide +kernel
theorem dX5_trade_28 : decode cX5_trade 28 = .ok (.sipush 1000, 3) := by decide +kernel
theorem dX5_trade_31 : decode cX5_trade 31 = .ok (.invokestatic 75, 3) := by decide +kernel
theorem dX5_trade_34 : decode cX5_trade 34 = .ok (.ifCond .eq 30, 3) := by decide +kernel
theorem dX5_trade_37 : decode cX5_trade 37 = .ok (.iload 6, 2) := by decide +kernel
theorem dX5_trade_39 : decode cX5_trade 39 = .ok (.iconst 5, 1) := by decide +kernel
theorem dX5_trade_40 : decode cX5_trade 40 = .ok (.sipush 180, 3) := by decide +kernel
theorem dX5_trade_43 : decode cX5_trade 43 = .ok (.invokestatic 75, 3) := by decide +kernel
theorem dX5_trade_46 : decode cX5_trade 46 = .ok (.ifCond .eq 18, 3) := by decide +kernel
theorem dX5_trade_49 : decode cX5_trade 49 = .ok (.iload 7, 2) := by decide +kernel
theorem dX5_trade_51 : decode cX5_trade 51 = .ok (.iconst 1, 1) := by decide +kernel
theorem dX5_trade_52 : decode cX5_trade 52 = .ok (.bipush 10, 2) := by decide +kernel
theorem dX5_trade_54 : decode cX5_trade 54 = .ok (.invokestatic 75, 3) := by decide +kernel
theorem dX5_trade_57 : decode cX5_trade 57 = .ok (.ifCond .eq 7, 3) := by decide +kernel
theorem dX5_trade_60 : decode cX5_trade 60 = .ok (.iconst 1, 1) := by decide +kernel
theorem dX5_trade_61 : decode cX5_trade 61 = .ok (.goto 4, 3) := by decide +kernel
theorem dX5_trade_64 : decode cX5_trade 64 = .ok (.iconst 0, 1) := by decide +kernel
theorem dX5_trade_65 : decode cX5_trade 65 = .ok (.istore 8, 2) := by decide +kernel
theorem dX5_trade_67 : decode cX5_trade 67 = .ok (.aload_n 0, 1) := by decide +kernel
theorem dX5_trade_68 : decode cX5_trade 68 = .ok (.iload_n 1, 1) := by decide +kernel
theorem dX5_trade_69 : decode cX5_trade 69 = .ok (.invokestatic 105, 3) := by decide +kernel
theorem dX5_trade_72 : decode cX5_trade 72 = .ok (.ifCond .ne 7, 3) := by decide +kernel
theorem dX5_trade_75 : decode cX5_trade 75 = .ok (.iconst 1, 1) := by decide +kernel
theorem dX5_trade_76 : decode cX5_trade 76 = .ok (.goto 26, 3) := by decide +kernel
theorem dX5_trade_79 : decode cX5_trade 79 = .ok (.iload 8, 2) := by decide +kernel
theorem dX5_trade_81 : decode cX5_trade 81 = .ok (.ifCond .ne 7, 3) := by decide +kernel
theorem dX5_trade_84 : decode cX5_trade 84 = .ok (.iconst 2, 1) := by decide +kernel
theorem dX5_trade_85 : decode cX5_trade 85 = .ok (.goto 17, 3) := by decide +kernel
theorem dX5_trade_88 : decode cX5_trade 88 = .ok (.aload_n 0, 1) := by decide +kernel
theorem dX5_trade_89 : decode cX5_trade 89 = .ok (.getfield 79, 3) := by decide +kernel
theorem dX5_trade_92 : decode cX5_trade 92 = .ok (.bipush 10, 2) := by decide +kernel
theorem dX5_trade_94 : decode cX5_trade 94 = .ok (.if_icmp .ne 7, 3) := by decide +kernel
theorem dX5_trade_97 : decode cX5_trade 97 = .ok (.iconst 3, 1) := by decide +kernel
theorem dX5_trade_98 : decode cX5_trade 98 = .ok (.goto 4, 3) := by decide +kernel
theorem dX5_trade_101 : decode cX5_trade 101 = .ok (.iconst 0, 1) := by decide +kernel
theorem dX5_trade_102 : decode cX5_trade 102 = .ok (.putfield 71, 3) := by decide +kernel
theorem dX5_trade_105 : decode cX5_trade 105 = .ok (.aload_n 0, 1) := by decide +kernel
theorem dX5_trade_106 : decode cX5_trade 106 = .ok (.getfield 71, 3) := by decide +kernel
theorem dX5_trade_109 : decode cX5_trade 109 = .ok (.ifCond .le 5, 3) := by decide +kernel
theorem dX5_trade_112 : decode cX5_trade 112 = .ok (.iconst 0, 1) := by decide +kernel
theorem dX5_trade_113 : decode cX5_trade 113 = .ok (.ireturn, 1) := by decide +kernel
theorem dX5_trade_114 : decode cX5_trade 114 = .ok (.aload_n 0, 1) := by decide +kernel
theorem dX5_trade_115 : decode cX5_trade 115 = .ok (.getfield 23, 3) := by decide +kernel
theorem dX5_trade_118 : decode cX5_trade 118 = .ok (.aload_n 0, 1) := by decide +kernel
theorem dX5_trade_119 : decode cX5_trade 119 = .ok (.getfield 79, 3) := by decide +kernel
theorem dX5_trade_122 : decode cX5_trade 122 = .ok (.iload_n 1, 1) := by decide +kernel
theorem dX5_trade_123 : decode cX5_trade 123 = .ok (.iastore, 1) := by decide +kernel
theorem dX5_trade_124 : decode cX5_trade 124 = .ok (.aload_n 0, 1) := by decide +kernel
theorem dX5_trade_125 : decode cX5_trade 125 = .ok (.getfield 26, 3) := by decide +kernel
theorem dX5_trade_128 : decode cX5_trade 128 = .ok (.aload_n 0, 1) := by decide +kernel
theorem dX5_trade_129 : decode cX5_trade 129 = .ok (.getfield 79, 3) := by decide +kernel
theorem dX5_trade_132 : decode cX5_trade 132 = .ok (.iload_n 2, 1) := by decide +kernel
theorem dX5_trade_133 : decode cX5_trade 133 = .ok (.iastore, 1) := by decide +kernel
theorem dX5_trade_134 : decode cX5_trade 134 = .ok (.aload_n 0, 1) := by decide +kernel
theorem dX5_trade_135 : decode cX5_trade 135 = .ok (.getfield 29, 3) := by decide +kernel
theorem dX5_trade_138 : decode cX5_trade 138 = .ok (.aload_n 0, 1) := by decide +kernel
theorem dX5_trade_139 : decode cX5_trade 139 = .ok (.getfield 79, 3) := by decide +kernel
theorem dX5_trade_142 : decode cX5_trade 142 = .ok (.iload_n 3, 1) := by decide +kernel
theorem dX5_trade_143 : decode cX5_trade 143 = .ok (.bastore, 1) := by decide +kernel
theorem dX5_trade_144 : decode cX5_trade 144 = .ok (.aload_n 0, 1) := by decide +kernel
theorem dX5_trade_145 : decode cX5_trade 145 = .ok (.getfield 32, 3) := by decide +kernel
theorem dX5_trade_148 : decode cX5_trade 148 = .ok (.aload_n 0, 1) := by decide +kernel
theorem dX5_trade_149 : decode cX5_trade 149 = .ok (.getfield 79, 3) := by decide +kernel
theorem dX5_trade_152 : decode cX5_trade 152 = .ok (.iload 4, 2) := by decide +kernel
theorem dX5_trade_154 : decode cX5_trade 154 = .ok (.iastore, 1) := by decide +kernel
theorem dX5_trade_155 : decode cX5_trade 155 = .ok (.aload_n 0, 1) := by decide +kernel
theorem dX5_trade_156 : decode cX5_trade 156 = .ok (.getfield 35, 3) := by decide +kernel
theorem dX5_trade_159 : decode cX5_trade 159 = .ok (.aload_n 0, 1) := by decide +kernel
theorem dX5_trade_160 : decode cX5_trade 160 = .ok (.getfield 79, 3) := by decide +kernel
theorem dX5_trade_163 : decode cX5_trade 163 = .ok (.iload 5, 2) := by decide +kernel
theorem dX5_trade_165 : decode cX5_trade 165 = .ok (.iastore, 1) := by decide +kernel
theorem dX5_trade_166 : decode cX5_trade 166 = .ok (.aload_n 0, 1) := by decide +kernel
theorem dX5_trade_167 : decode cX5_trade 167 = .ok (.getfield 38, 3) := by decide +kernel
theorem dX5_trade_170 : decode cX5_trade 170 = .ok (.aload_n 0, 1) := by decide +kernel
theorem dX5_trade_171 : decode cX5_trade 171 = .ok (.getfield 79, 3) := by decide +kernel
theorem dX5_trade_174 : decode cX5_trade 174 = .ok (.iload 6, 2) := by decide +kernel
theorem dX5_trade_176 : decode cX5_trade 176 = .ok (.iastore, 1) := by decide +kernel
theorem dX5_trade_177 : decode cX5_trade 177 = .ok (.aload_n 0, 1) := by decide +kernel
theorem dX5_trade_178 : decode cX5_trade 178 = .ok (.getfield 41, 3) := by decide +kernel
theorem dX5_trade_181 : decode cX5_trade 181 = .ok (.aload_n 0, 1) := by decide +kernel
theorem dX5_trade_182 : decode cX5_trade 182 = .ok (.getfield 79, 3) := by decide +kernel
theorem dX5_trade_185 : decode cX5_trade 185 = .ok (.iload 7, 2) := by decide +kernel
theorem dX5_trade_187 : decode cX5_trade 187 = .ok (.iastore, 1) := by decide +kernel
theorem dX5_trade_188 : decode cX5_trade 188 = .ok (.aload_n 0, 1) := by decide +kernel
theorem dX5_trade_189 : decode cX5_trade 189 = .ok (.dup, 1) := by decide +kernel
theorem dX5_trade_190 : decode cX5_trade 190 = .ok (.getfield 79, 3) := by decide +kernel
theorem dX5_trade_193 : decode cX5_trade 193 = .ok (.iconst 1, 1) := by decide +kernel
theorem dX5_trade_194 : decode cX5_trade 194 = .ok (.iadd, 1) := by decide +kernel
theorem dX5_trade_195 : decode cX5_trade 195 = .ok (.putfield 79, 3) := by decide +kernel
theorem dX5_trade_198 : decode cX5_trade 198 = .ok (.aload_n 0, 1) := by decide +kernel
theorem dX5_trade_199 : decode cX5_trade 199 = .ok (.getfield 79, 3) := by decide +kernel
theorem dX5_trade_202 : decode cX5_trade 202 = .ok (.iconst 1, 1) := by decide +kernel
theorem dX5_trade_203 : decode cX5_trade 203 = .ok (.isub, 1) := by decide +kernel
theorem dX5_trade_204 : decode cX5_trade 204 = .ok (.ireturn, 1) := by decide +kernel
theorem dX5_broken_0 : decode cX5_broken 0 = .ok (.iconst 0, 1) := by decide +kernel
theorem dX5_broken_1 : decode cX5_broken 1 = .ok (.istore_n 3, 1) := by decide +kernel
theorem dX5_broken_2 : decode cX5_broken 2 = .ok (.iconst 0, 1) := by decide +kernel
theorem dX5_broken_3 : decode cX5_broken 3 = .ok (.istore 4, 2) := by decide +kernel
theorem dX5_broken_5 : decode cX5_broken 5 = .ok (.iload 4, 2) := by decide +kernel
theorem dX5_broken_7 : decode cX5_broken 7 = .ok (.aload_n 0, 1) := by decide +kernel
theorem dX5_broken_8 : decode cX5_broken 8 = .ok (.getfield 108, 3) := by decide +kernel
theorem dX5_broken_11 : decode cX5_broken 11 = .ok (.if_icmp .ge 45, 3) := by decide +kernel
theorem dX5_broken_14 : decode cX5_broken 14 = .ok (.iload_n 3, 1) := by decide +kernel
theorem dX5_broken_15 : decode cX5_broken 15 = .ok (.aload_n 0, 1) := by decide +kernel
theorem dX5_broken_16 : decode cX5_broken 16 = .ok (.getfield 53, 3) := by decide +kernel
theorem dX5_broken_19 : decode cX5_broken 19 = .ok (.iload 4, 2) := by decide +kernel
theorem dX5_broken_21 : decode cX5_broken 21 = .ok (.iaload, 1) := by decide +kernel
theorem dX5_broken_22 : decode cX5_broken 22 = .ok (.iload_n 1, 1) := by decide +kernel
theorem dX5_broken_23 : decode cX5_broken 23 = .ok (.if_icmp .ne 24, 3) := by decide +kernel
theorem dX5_broken_26 : decode cX5_broken 26 = .ok (.aload_n 0, 1) := by decide +kernel
theorem dX5_broken_27 : decode cX5_broken 27 = .ok (.getfield 56, 3) := by decide +kernel
theorem dX5_broken_30 : decode cX5_broken 30 = .ok (.iload 4, 2) := by decide +kernel
theorem dX5_broken_32 : decode cX5_broken 32 = .ok (.iaload, 1) := by decide +kernel
theorem dX5_broken_33 : decode cX5_broken 33 = .ok (.iload_n 2, 1) := by decide +kernel
theorem dX5_broken_34 : decode cX5_broken 34 = .ok (.if_icmp .gt 13, 3) := by decide +kernel
theorem dX5_broken_37 : decode cX5_broken 37 = .ok (.aload_n 0, 1) := by decide +kernel
theorem dX5_broken_38 : decode cX5_broken 38 = .ok (.getfield 59, 3) := by decide +kernel
theorem dX5_broken_41 : decode cX5_broken 41 = .ok (.iload 4, 2) := by decide +kernel
theorem dX5_broken_43 : decode cX5_broken 43 = .ok (.iaload, 1) := by decide +kernel
theorem dX5_broken_44 : decode cX5_broken 44 = .ok (.goto 4, 3) := by decide +kernel
theorem dX5_broken_47 : decode cX5_broken 47 = .ok (.iconst 0, 1) := by decide +kernel
theorem dX5_broken_48 : decode cX5_broken 48 = .ok (.iadd, 1) := by decide +kernel
theorem dX5_broken_49 : decode cX5_broken 49 = .ok (.istore_n 3, 1) := by decide +kernel
theorem dX5_broken_50 : decode cX5_broken 50 = .ok (.iinc 4 1, 3) := by decide +kernel
theorem dX5_broken_53 : decode cX5_broken 53 = .ok (.goto (-48), 3) := by decide +kernel
theorem dX5_broken_56 : decode cX5_broken 56 = .ok (.iload_n 3, 1) := by decide +kernel
theorem dX5_broken_57 : decode cX5_broken 57 = .ok (.ireturn, 1) := by decide +kernel
theorem dX5_rest_0 : decode cX5_rest 0 = .ok (.aload_n 0, 1) := by decide +kernel
theorem dX5_rest_1 : decode cX5_rest 1 = .ok (.getfield 26, 3) := by decide +kernel
theorem dX5_rest_4 : decode cX5_rest 4 = .ok (.iload_n 1, 1) := by decide +kernel
theorem dX5_rest_5 : decode cX5_rest 5 = .ok (.iaload, 1) := by decide +kernel
theorem dX5_rest_6 : decode cX5_rest 6 = .ok (.aload_n 0, 1) := by decide +kernel
theorem dX5_rest_7 : decode cX5_rest 7 = .ok (.iload_n 1, 1) := by decide +kernel
theorem dX5_rest_8 : decode cX5_rest 8 = .ok (.sipush 3001, 3) := by decide +kernel
theorem dX5_rest_11 : decode cX5_rest 11 = .ok (.invokevirtual 111, 3) := by decide +kernel
theorem dX5_rest_14 : decode cX5_rest 14 = .ok (.isub, 1) := by decide +kernel
theorem dX5_rest_15 : decode cX5_rest 15 = .ok (.ireturn, 1) := by decide +kernel
theorem dX5_countBreaks_0 : decode cX5_countBreaks 0 = .ok (.iconst 0, 1) := by decide +kernel
theorem dX5_countBreaks_1 : decode cX5_countBreaks 1 = .ok (.istore_n 2, 1) := by decide +kernel
theorem dX5_countBreaks_2 : decode cX5_countBreaks 2 = .ok (.iconst 0, 1) := by decide +kernel
theorem dX5_countBreaks_3 : decode cX5_countBreaks 3 = .ok (.istore_n 3, 1) := by decide +kernel
theorem dX5_countBreaks_4 : decode cX5_countBreaks 4 = .ok (.iload_n 3, 1) := by decide +kernel
theorem dX5_countBreaks_5 : decode cX5_countBreaks 5 = .ok (.aload_n 0, 1) := by decide +kernel
theorem dX5_countBreaks_6 : decode cX5_countBreaks 6 = .ok (.getfield 108, 3) := by decide +kernel
theorem dX5_countBreaks_9 : decode cX5_countBreaks 9 = .ok (.if_icmp .ge 27, 3) := by decide +kernel
theorem dX5_countBreaks_12 : decode cX5_countBreaks 12 = .ok (.iload_n 2, 1) := by decide +kernel
theorem dX5_countBreaks_13 : decode cX5_countBreaks 13 = .ok (.aload_n 0, 1) := by decide +kernel
theorem dX5_countBreaks_14 : decode cX5_countBreaks 14 = .ok (.getfield 53, 3) := by decide +kernel
theorem dX5_countBreaks_17 : decode cX5_countBreaks 17 = .ok (.iload_n 3, 1) := by decide +kernel
theorem dX5_countBreaks_18 : decode cX5_countBreaks 18 = .ok (.iaload, 1) := by decide +kernel
theorem dX5_countBreaks_19 : decode cX5_countBreaks 19 = .ok (.iload_n 1, 1) := by decide +kernel
theorem dX5_countBreaks_20 : decode cX5_countBreaks 20 = .ok (.if_icmp .ne 7, 3) := by decide +kernel
theorem dX5_countBreaks_23 : decode cX5_countBreaks 23 = .ok (.iconst 1, 1) := by decide +kernel
theorem dX5_countBreaks_24 : decode cX5_countBreaks 24 = .ok (.goto 4, 3) := by decide +kernel
theorem dX5_countBreaks_27 : decode cX5_countBreaks 27 = .ok (.iconst 0, 1) := by decide +kernel
theorem dX5_countBreaks_28 : decode cX5_countBreaks 28 = .ok (.iadd, 1) := by decide +kernel
theorem dX5_countBreaks_29 : decode cX5_countBreaks 29 = .ok (.istore_n 2, 1) := by decide +kernel
theorem dX5_countBreaks_30 : decode cX5_countBreaks 30 = .ok (.iinc 3 1, 3) := by decide +kernel
theorem dX5_countBreaks_33 : decode cX5_countBreaks 33 = .ok (.goto (-29), 3) := by decide +kernel
theorem dX5_countBreaks_36 : decode cX5_countBreaks 36 = .ok (.iload_n 2, 1) := by decide +kernel
theorem dX5_countBreaks_37 : decode cX5_countBreaks 37 = .ok (.ireturn, 1) := by decide +kernel
theorem dX5_setTerms_0 : decode cX5_setTerms 0 = .ok (.iload_n 2, 1) := by decide +kernel
theorem dX5_setTerms_1 : decode cX5_setTerms 1 = .ok (.sipush (-500), 3) := by decide +kernel
theorem dX5_setTerms_4 : decode cX5_setTerms 4 = .ok (.sipush 500, 3) := by decide +kernel
theorem dX5_setTerms_7 : decode cX5_setTerms 7 = .ok (.invokestatic 75, 3) := by decide +kernel
theorem dX5_setTerms_10 : decode cX5_setTerms 10 = .ok (.ifCond .eq 26, 3) := by decide +kernel
theorem dX5_setTerms_13 : decode cX5_setTerms 13 = .ok (.iload_n 3, 1) := by decide +kernel
theorem dX5_setTerms_14 : decode cX5_setTerms 14 = .ok (.iconst 0, 1) := by decide +kernel
theorem dX5_setTerms_15 : decode cX5_setTerms 15 = .ok (.iconst 1, 1) := by decide +kernel
theorem dX5_setTerms_16 : decode cX5_setTerms 16 = .ok (.invokestatic 75, 3) := by decide +kernel
theorem dX5_setTerms_19 : decode cX5_setTerms 19 = .ok (.ifCond .eq 17, 3) := by decide +kernel
theorem dX5_setTerms_22 : decode cX5_setTerms 22 = .ok (.iload 4, 2) := by decide +kernel
theorem dX5_setTerms_24 : decode cX5_setTerms 24 = .ok (.iconst 0, 1) := by decide +kernel
theorem dX5_setTerms_25 : decode cX5_setTerms 25 = .ok (.iconst 2, 1) := by decide +kernel
theorem dX5_setTerms_26 : decode cX5_setTerms 26 = .ok (.invokestatic 75, 3) := by decide +kernel
theorem dX5_setTerms_29 : decode cX5_setTerms 29 = .ok (.ifCond .eq 7, 3) := by decide +kernel
theorem dX5_setTerms_32 : decode cX5_setTerms 32 = .ok (.iconst 1, 1) := by decide +kernel
theorem dX5_setTerms_33 : decode cX5_setTerms 33 = .ok (.goto 4, 3) := by decide +kernel
theorem dX5_setTerms_36 : decode cX5_setTerms 36 = .ok (.iconst 0, 1) := by decide +kernel
theorem dX5_setTerms_37 : decode cX5_setTerms 37 = .ok (.istore 5, 2) := by decide +kernel
theorem dX5_setTerms_39 : decode cX5_setTerms 39 = .ok (.aload_n 0, 1) := by decide +kernel
theorem dX5_setTerms_40 : decode cX5_setTerms 40 = .ok (.aload_n 0, 1) := by decide +kernel
theorem dX5_setTerms_41 : decode cX5_setTerms 41 = .ok (.iload_n 1, 1) := by decide +kernel
theorem dX5_setTerms_42 : decode cX5_setTerms 42 = .ok (.invokevirtual 82, 3) := by decide +kernel
theorem dX5_setTerms_45 : decode cX5_setTerms 45 = .ok (.ifCond .ne 7, 3) := by decide +kernel
theorem dX5_setTerms_48 : decode cX5_setTerms 48 = .ok (.iconst 1, 1) := by decide +kernel
theorem dX5_setTerms_49 : decode cX5_setTerms 49 = .ok (.goto 25, 3) := by decide +kernel
theorem dX5_setTerms_52 : decode cX5_setTerms 52 = .ok (.iload 5, 2) := by decide +kernel
theorem dX5_setTerms_54 : decode cX5_setTerms 54 = .ok (.ifCond .ne 7, 3) := by decide +kernel
theorem dX5_setTerms_57 : decode cX5_setTerms 57 = .ok (.iconst 2, 1) := by decide +kernel
theorem dX5_setTerms_58 : decode cX5_setTerms 58 = .ok (.goto 16, 3) := by decide +kernel
theorem dX5_setTerms_61 : decode cX5_setTerms 61 = .ok (.aload_n 0, 1) := by decide +kernel
theorem dX5_setTerms_62 : decode cX5_setTerms 62 = .ok (.iload_n 1, 1) := by decide +kernel
theorem dX5_setTerms_63 : decode cX5_setTerms 63 = .ok (.invokevirtual 115, 3) := by decide +kernel
theorem dX5_setTerms_66 : decode cX5_setTerms 66 = .ok (.ifCond .le 7, 3) := by decide +kernel
theorem dX5_setTerms_69 : decode cX5_setTerms 69 = .ok (.iconst 3, 1) := by decide +kernel
theorem dX5_setTerms_70 : decode cX5_setTerms 70 = .ok (.goto 4, 3) := by decide +kernel
theorem dX5_setTerms_73 : decode cX5_setTerms 73 = .ok (.iconst 0, 1) := by decide +kernel
theorem dX5_setTerms_74 : decode cX5_setTerms 74 = .ok (.putfield 71, 3) := by decide +kernel
theorem dX5_setTerms_77 : decode cX5_setTerms 77 = .ok (.aload_n 0, 1) := by decide +kernel
theorem dX5_setTerms_78 : decode cX5_setTerms 78 = .ok (.getfield 71, 3) := by decide +kernel
theorem dX5_setTerms_81 : decode cX5_setTerms 81 = .ok (.ifCond .ne 25, 3) := by decide +kernel
theorem dX5_setTerms_84 : decode cX5_setTerms 84 = .ok (.aload_n 0, 1) := by decide +kernel
theorem dX5_setTerms_85 : decode cX5_setTerms 85 = .ok (.getfield 44, 3) := by decide +kernel
theorem dX5_setTerms_88 : decode cX5_setTerms 88 = .ok (.iload_n 1, 1) := by decide +kernel
theorem dX5_setTerms_89 : decode cX5_setTerms 89 = .ok (.iload_n 2, 1) := by decide +kernel
theorem dX5_setTerms_90 : decode cX5_setTerms 90 = .ok (.iastore, 1) := by decide +kernel
theorem dX5_setTerms_91 : decode cX5_setTerms 91 = .ok (.aload_n 0, 1) := by decide +kernel
theorem dX5_setTerms_92 : decode cX5_setTerms 92 = .ok (.getfield 47, 3) := by decide +kernel
theorem dX5_setTerms_95 : decode cX5_setTerms 95 = .ok (.iload_n 1, 1) := by decide +kernel
theorem dX5_setTerms_96 : decode cX5_setTerms 96 = .ok (.iload_n 3, 1) := by decide +kernel
theorem dX5_setTerms_97 : decode cX5_setTerms 97 = .ok (.iastore, 1) := by decide +kernel
theorem dX5_setTerms_98 : decode cX5_setTerms 98 = .ok (.aload_n 0, 1) := by decide +kernel
theorem dX5_setTerms_99 : decode cX5_setTerms 99 = .ok (.getfield 50, 3) := by decide +kernel
theorem dX5_setTerms_102 : decode cX5_setTerms 102 = .ok (.iload_n 1, 1) := by decide +kernel
theorem dX5_setTerms_103 : decode cX5_setTerms 103 = .ok (.iload 4, 2) := by decide +kernel
theorem dX5_setTerms_105 : decode cX5_setTerms 105 = .ok (.iastore, 1) := by decide +kernel
theorem dX5_setTerms_106 : decode cX5_setTerms 106 = .ok (.return_, 1) := by decide +kernel
theorem dX5_breaks_0 : decode cX5_breaks 0 = .ok (.aload_n 0, 1) := by decide +kernel
theorem dX5_breaks_1 : decode cX5_breaks 1 = .ok (.getfield 53, 3) := by decide +kernel
theorem dX5_breaks_4 : decode cX5_breaks 4 = .ok (.aload_n 0, 1) := by decide +kernel
theorem dX5_breaks_5 : decode cX5_breaks 5 = .ok (.getfield 108, 3) := by decide +kernel
theorem dX5_breaks_8 : decode cX5_breaks 8 = .ok (.iload_n 1, 1) := by decide +kernel
theorem dX5_breaks_9 : decode cX5_breaks 9 = .ok (.iastore, 1) := by decide +kernel
theorem dX5_breaks_10 : decode cX5_breaks 10 = .ok (.aload_n 0, 1) := by decide +kernel
theorem dX5_breaks_11 : decode cX5_breaks 11 = .ok (.getfield 56, 3) := by decide +kernel
theorem dX5_breaks_14 : decode cX5_breaks 14 = .ok (.aload_n 0, 1) := by decide +kernel
theorem dX5_breaks_15 : decode cX5_breaks 15 = .ok (.getfield 108, 3) := by decide +kernel
theorem dX5_breaks_18 : decode cX5_breaks 18 = .ok (.iload_n 2, 1) := by decide +kernel
theorem dX5_breaks_19 : decode cX5_breaks 19 = .ok (.iastore, 1) := by decide +kernel
theorem dX5_breaks_20 : decode cX5_breaks 20 = .ok (.aload_n 0, 1) := by decide +kernel
theorem dX5_breaks_21 : decode cX5_breaks 21 = .ok (.getfield 59, 3) := by decide +kernel
theorem dX5_breaks_24 : decode cX5_breaks 24 = .ok (.aload_n 0, 1) := by decide +kernel
theorem dX5_breaks_25 : decode cX5_breaks 25 = .ok (.getfield 108, 3) := by decide +kernel
theorem dX5_breaks_28 : decode cX5_breaks 28 = .ok (.iload_n 3, 1) := by decide +kernel
theorem dX5_breaks_29 : decode cX5_breaks 29 = .ok (.iastore, 1) := by decide +kernel
theorem dX5_breaks_30 : decode cX5_breaks 30 = .ok (.aload_n 0, 1) := by decide +kernel
theorem dX5_breaks_31 : decode cX5_breaks 31 = .ok (.dup, 1) := by decide +kernel
theorem dX5_breaks_32 : decode cX5_breaks 32 = .ok (.getfield 108, 3) := by decide +kernel
theorem dX5_breaks_35 : decode cX5_breaks 35 = .ok (.iconst 1, 1) := by decide +kernel
theorem dX5_breaks_36 : decode cX5_breaks 36 = .ok (.iadd, 1) := by decide +kernel
theorem dX5_breaks_37 : decode cX5_breaks 37 = .ok (.putfield 108, 3) := by decide +kernel
theorem dX5_breaks_40 : decode cX5_breaks 40 = .ok (.return_, 1) := by decide +kernel
theorem dX5_breakPart_0 : decode cX5_breakPart 0 = .ok (.aload_n 0, 1) := by decide +kernel
theorem dX5_breakPart_1 : decode cX5_breakPart 1 = .ok (.aload_n 0, 1) := by decide +kernel
theorem dX5_breakPart_2 : decode cX5_breakPart 2 = .ok (.iload_n 1, 1) := by decide +kernel
theorem dX5_breakPart_3 : decode cX5_breakPart 3 = .ok (.invokevirtual 82, 3) := by decide +kernel
theorem dX5_breakPart_6 : decode cX5_breakPart 6 = .ok (.ifCond .ne 7, 3) := by decide +kernel
theorem dX5_breakPart_9 : decode cX5_breakPart 9 = .ok (.iconst 1, 1) := by decide +kernel
theorem dX5_breakPart_10 : decode cX5_breakPart 10 = .ok (.goto 39, 3) := by decide +kernel
theorem dX5_breakPart_13 : decode cX5_breakPart 13 = .ok (.iload_n 2, 1) := by decide +kernel
theorem dX5_breakPart_14 : decode cX5_breakPart 14 = .ok (.invokestatic 89, 3) := by decide +kernel
theorem dX5_breakPart_17 : decode cX5_breakPart 17 = .ok (.ifCond .eq 14, 3) := by decide +kernel
theorem dX5_breakPart_20 : decode cX5_breakPart 20 = .ok (.iload_n 3, 1) := by decide +kernel
theorem dX5_breakPart_21 : decode cX5_breakPart 21 = .ok (.iconst 1, 1) := by decide +kernel
theorem dX5_breakPart_22 : decode cX5_breakPart 22 = .ok (.sipush 1000, 3) := by decide +kernel
theorem dX5_breakPart_25 : decode cX5_breakPart 25 = .ok (.invokestatic 75, 3) := by decide +kernel
theorem dX5_breakPart_28 : decode cX5_breakPart 28 = .ok (.ifCond .ne 7, 3) := by decide +kernel
theorem dX5_breakPart_31 : decode cX5_breakPart 31 = .ok (.iconst 2, 1) := by decide +kernel
theorem dX5_breakPart_32 : decode cX5_breakPart 32 = .ok (.goto 17, 3) := by decide +kernel
theorem dX5_breakPart_35 : decode cX5_breakPart 35 = .ok (.aload_n 0, 1) := by decide +kernel
theorem dX5_breakPart_36 : decode cX5_breakPart 36 = .ok (.iload_n 1, 1) := by decide +kernel
theorem dX5_breakPart_37 : decode cX5_breakPart 37 = .ok (.invokevirtual 118, 3) := by decide +kernel
theorem dX5_breakPart_40 : decode cX5_breakPart 40 = .ok (.iload_n 3, 1) := by decide +kernel
theorem dX5_breakPart_41 : decode cX5_breakPart 41 = .ok (.if_icmp .ge 7, 3) := by decide +kernel
theorem dX5_breakPart_44 : decode cX5_breakPart 44 = .ok (.iconst 3, 1) := by decide +kernel
theorem dX5_breakPart_45 : decode cX5_breakPart 45 = .ok (.goto 4, 3) := by decide +kernel
theorem dX5_breakPart_48 : decode cX5_breakPart 48 = .ok (.iconst 0, 1) := by decide +kernel
theorem dX5_breakPart_49 : decode cX5_breakPart 49 = .ok (.putfield 71, 3) := by decide +kernel
theorem dX5_breakPart_52 : decode cX5_breakPart 52 = .ok (.aload_n 0, 1) := by decide +kernel
theorem dX5_breakPart_53 : decode cX5_breakPart 53 = .ok (.getfield 71, 3) := by decide +kernel
theorem dX5_breakPart_56 : decode cX5_breakPart 56 = .ok (.ifCond .le 5, 3) := by decide +kernel
theorem dX5_breakPart_59 : decode cX5_breakPart 59 = .ok (.iconst 0, 1) := by decide +kernel
theorem dX5_breakPart_60 : decode cX5_breakPart 60 = .ok (.ireturn, 1) := by decide +kernel
theorem dX5_breakPart_61 : decode cX5_breakPart 61 = .ok (.aload_n 0, 1) := by decide +kernel
theorem dX5_breakPart_62 : decode cX5_breakPart 62 = .ok (.iload_n 1, 1) := by decide +kernel
theorem dX5_breakPart_63 : decode cX5_breakPart 63 = .ok (.iload_n 2, 1) := by decide +kernel
theorem dX5_breakPart_64 : decode cX5_breakPart 64 = .ok (.iload_n 3, 1) := by decide +kernel
theorem dX5_breakPart_65 : decode cX5_breakPart 65 = .ok (.invokevirtual 121, 3) := by decide +kernel
theorem dX5_breakPart_68 : decode cX5_breakPart 68 = .ok (.aload_n 0, 1) := by decide +kernel
theorem dX5_breakPart_69 : decode cX5_breakPart 69 = .ok (.iload_n 1, 1) := by decide +kernel
theorem dX5_breakPart_70 : decode cX5_breakPart 70 = .ok (.invokevirtual 115, 3) := by decide +kernel
theorem dX5_breakPart_73 : decode cX5_breakPart 73 = .ok (.ireturn, 1) := by decide +kernel
theorem dX5_party_0 : decode cX5_party 0 = .ok (.aload_n 0, 1) := by decide +kernel
theorem dX5_party_1 : decode cX5_party 1 = .ok (.getfield 23, 3) := by decide +kernel
theorem dX5_party_4 : decode cX5_party 4 = .ok (.iload_n 1, 1) := by decide +kernel
theorem dX5_party_5 : decode cX5_party 5 = .ok (.iaload, 1) := by decide +kernel
theorem dX5_party_6 : decode cX5_party 6 = .ok (.istore_n 3, 1) := by decide +kernel
theorem dX5_party_7 : decode cX5_party 7 = .ok (.iconst (-1), 1) := by decide +kernel
theorem dX5_party_8 : decode cX5_party 8 = .ok (.istore 4, 2) := by decide +kernel
theorem dX5_party_10 : decode cX5_party 10 = .ok (.iconst 0, 1) := by decide +kernel
theorem dX5_party_11 : decode cX5_party 11 = .ok (.istore 5, 2) := by decide +kernel
theorem dX5_party_13 : decode cX5_party 13 = .ok (.iload 5, 2) := by decide +kernel
theorem dX5_party_15 : decode cX5_party 15 = .ok (.aload_n 0, 1) := by decide +kernel
theorem dX5_party_16 : decode cX5_party 16 = .ok (.getfield 62, 3) := by decide +kernel
theorem dX5_party_19 : decode cX5_party 19 = .ok (.iload_n 1, 1) := by decide +kernel
theorem dX5_party_20 : decode cX5_party 20 = .ok (.iaload, 1) := by decide +kernel
theorem dX5_party_21 : decode cX5_party 21 = .ok (.if_icmp .ge 53, 3) := by decide +kernel
theorem dX5_party_24 : decode cX5_party 24 = .ok (.aload_n 0, 1) := by decide +kernel
theorem dX5_party_25 : decode cX5_party 25 = .ok (.getfield 65, 3) := by decide +kernel
theorem dX5_party_28 : decode cX5_party 28 = .ok (.bipush 10, 2) := by decide +kernel
theorem dX5_party_30 : decode cX5_party 30 = .ok (.iload_n 1, 1) := by decide +kernel
theorem dX5_party_31 : decode cX5_party 31 = .ok (.imul, 1) := by decide +kernel
theorem dX5_party_32 : decode cX5_party 32 = .ok (.iload 5, 2) := by decide +kernel
theorem dX5_party_34 : decode cX5_party 34 = .ok (.iadd, 1) := by decide +kernel
theorem dX5_party_35 : decode cX5_party 35 = .ok (.iaload, 1) := by decide +kernel
theorem dX5_party_36 : decode cX5_party 36 = .ok (.istore 6, 2) := by decide +kernel
theorem dX5_party_38 : decode cX5_party 38 = .ok (.iload 6, 2) := by decide +kernel
theorem dX5_party_40 : decode cX5_party 40 = .ok (.iload_n 2, 1) := by decide +kernel
theorem dX5_party_41 : decode cX5_party 41 = .ok (.if_icmp .gt 27, 3) := by decide +kernel
theorem dX5_party_44 : decode cX5_party 44 = .ok (.iload 6, 2) := by decide +kernel
theorem dX5_party_46 : decode cX5_party 46 = .ok (.iload 4, 2) := by decide +kernel
theorem dX5_party_48 : decode cX5_party 48 = .ok (.if_icmp .lt 20, 3) := by decide +kernel
theorem dX5_party_51 : decode cX5_party 51 = .ok (.aload_n 0, 1) := by decide +kernel
theorem dX5_party_52 : decode cX5_party 52 = .ok (.getfield 68, 3) := by decide +kernel
theorem dX5_party_55 : decode cX5_party 55 = .ok (.bipush 10, 2) := by decide +kernel
theorem dX5_party_57 : decode cX5_party 57 = .ok (.iload_n 1, 1) := by decide +kernel
theorem dX5_party_58 : decode cX5_party 58 = .ok (.imul, 1) := by decide +kernel
theorem dX5_party_59 : decode cX5_party 59 = .ok (.iload 5, 2) := by decide +kernel
theorem dX5_party_61 : decode cX5_party 61 = .ok (.iadd, 1) := by decide +kernel
theorem dX5_party_62 : decode cX5_party 62 = .ok (.iaload, 1) := by decide +kernel
theorem dX5_party_63 : decode cX5_party 63 = .ok (.istore_n 3, 1) := by decide +kernel
theorem dX5_party_64 : decode cX5_party 64 = .ok (.iload 6, 2) := by decide +kernel
theorem dX5_party_66 : decode cX5_party 66 = .ok (.istore 4, 2) := by decide +kernel
theorem dX5_party_68 : decode cX5_party 68 = .ok (.iinc 5 1, 3) := by decide +kernel
theorem dX5_party_71 : decode cX5_party 71 = .ok (.goto (-58), 3) := by decide +kernel
theorem dX5_party_74 : decode cX5_party 74 = .ok (.iload_n 3, 1) := by decide +kernel
theorem dX5_party_75 : decode cX5_party 75 = .ok (.ireturn, 1) := by decide +kernel
theorem dX5_handOver_0 : decode cX5_handOver 0 = .ok (.aload_n 0, 1) := by decide +kernel
theorem dX5_handOver_1 : decode cX5_handOver 1 = .ok (.aload_n 0, 1) := by decide +kernel
theorem dX5_handOver_2 : decode cX5_handOver 2 = .ok (.iload_n 1, 1) := by decide +kernel
theorem dX5_handOver_3 : decode cX5_handOver 3 = .ok (.invokevirtual 82, 3) := by decide +kernel
theorem dX5_handOver_6 : decode cX5_handOver 6 = .ok (.ifCond .eq 10, 3) := by decide +kernel
theorem dX5_handOver_9 : decode cX5_handOver 9 = .ok (.iload_n 3, 1) := by decide +kernel
theorem dX5_handOver_10 : decode cX5_handOver 10 = .ok (.invokestatic 105, 3) := by decide +kernel
theorem dX5_handOver_13 : decode cX5_handOver 13 = .ok (.ifCond .ne 7, 3) := by decide +kernel
theorem dX5_handOver_16 : decode cX5_handOver 16 = .ok (.iconst 1, 1) := by decide +kernel
theorem dX5_handOver_17 : decode cX5_handOver 17 = .ok (.goto 30, 3) := by decide +kernel
theorem dX5_handOver_20 : decode cX5_handOver 20 = .ok (.iload_n 2, 1) := by decide +kernel
theorem dX5_handOver_21 : decode cX5_handOver 21 = .ok (.invokestatic 89, 3) := by decide +kernel
theorem dX5_handOver_24 : decode cX5_handOver 24 = .ok (.ifCond .ne 7, 3) := by decide +kernel
theorem dX5_handOver_27 : decode cX5_handOver 27 = .ok (.iconst 2, 1) := by decide +kernel
theorem dX5_handOver_28 : decode cX5_handOver 28 = .ok (.goto 19, 3) := by decide +kernel
theorem dX5_handOver_31 : decode cX5_handOver 31 = .ok (.aload_n 0, 1) := by decide +kernel
theorem dX5_handOver_32 : decode cX5_handOver 32 = .ok (.getfield 62, 3) := by decide +kernel
theorem dX5_handOver_35 : decode cX5_handOver 35 = .ok (.iload_n 1, 1) := by decide +kernel
theorem dX5_handOver_36 : decode cX5_handOver 36 = .ok (.iaload, 1) := by decide +kernel
theorem dX5_handOver_37 : decode cX5_handOver 37 = .ok (.bipush 10, 2) := by decide +kernel
theorem dX5_handOver_39 : decode cX5_handOver 39 = .ok (.if_icmp .ne 7, 3) := by decide +kernel
theorem dX5_handOver_42 : decode cX5_handOver 42 = .ok (.iconst 3, 1) := by decide +kernel
theorem dX5_handOver_43 : decode cX5_handOver 43 = .ok (.goto 4, 3) := by decide +kernel
theorem dX5_handOver_46 : decode cX5_handOver 46 = .ok (.iconst 0, 1) := by decide +kernel
theorem dX5_handOver_47 : decode cX5_handOver 47 = .ok (.putfield 71, 3) := by decide +kernel
theorem dX5_handOver_50 : decode cX5_handOver 50 = .ok (.aload_n 0, 1) := by decide +kernel
theorem dX5_handOver_51 : decode cX5_handOver 51 = .ok (.getfield 71, 3) := by decide +kernel
theorem dX5_handOver_54 : decode cX5_handOver 54 = .ok (.ifCond .le 5, 3) := by decide +kernel
theorem dX5_handOver_57 : decode cX5_handOver 57 = .ok (.iconst 0, 1) := by decide +kernel
theorem dX5_handOver_58 : decode cX5_handOver 58 = .ok (.ireturn, 1) := by decide +kernel
theorem dX5_handOver_59 : decode cX5_handOver 59 = .ok (.aload_n 0, 1) := by decide +kernel
theorem dX5_handOver_60 : decode cX5_handOver 60 = .ok (.iload_n 1, 1) := by decide +kernel
theorem dX5_handOver_61 : decode cX5_handOver 61 = .ok (.iload_n 2, 1) := by decide +kernel
theorem dX5_handOver_62 : decode cX5_handOver 62 = .ok (.invokevirtual 125, 3) := by decide +kernel
theorem dX5_handOver_65 : decode cX5_handOver 65 = .ok (.istore 4, 2) := by decide +kernel
theorem dX5_handOver_67 : decode cX5_handOver 67 = .ok (.aload_n 0, 1) := by decide +kernel
theorem dX5_handOver_68 : decode cX5_handOver 68 = .ok (.getfield 65, 3) := by decide +kernel
theorem dX5_handOver_71 : decode cX5_handOver 71 = .ok (.bipush 10, 2) := by decide +kernel
theorem dX5_handOver_73 : decode cX5_handOver 73 = .ok (.iload_n 1, 1) := by decide +kernel
theorem dX5_handOver_74 : decode cX5_handOver 74 = .ok (.imul, 1) := by decide +kernel
theorem dX5_handOver_75 : decode cX5_handOver 75 = .ok (.aload_n 0, 1) := by decide +kernel
theorem dX5_handOver_76 : decode cX5_handOver 76 = .ok (.getfield 62, 3) := by decide +kernel
theorem dX5_handOver_79 : decode cX5_handOver 79 = .ok (.iload_n 1, 1) := by decide +kernel
theorem dX5_handOver_80 : decode cX5_handOver 80 = .ok (.iaload, 1) := by decide +kernel
theorem dX5_handOver_81 : decode cX5_handOver 81 = .ok (.iadd, 1) := by decide +kernel
theorem dX5_handOver_82 : decode cX5_handOver 82 = .ok (.iload_n 2, 1) := by decide +kernel
theorem dX5_handOver_83 : decode cX5_handOver 83 = .ok (.iastore, 1) := by decide +kernel
theorem dX5_handOver_84 : decode cX5_handOver 84 = .ok (.aload_n 0, 1) := by decide +kernel
theorem dX5_handOver_85 : decode cX5_handOver 85 = .ok (.getfield 68, 3) := by decide +kernel
theorem dX5_handOver_88 : decode cX5_handOver 88 = .ok (.bipush 10, 2) := by decide +kernel
theorem dX5_handOver_90 : decode cX5_handOver 90 = .ok (.iload_n 1, 1) := by decide +kernel
theorem dX5_handOver_91 : decode cX5_handOver 91 = .ok (.imul, 1) := by decide +kernel
theorem dX5_handOver_92 : decode cX5_handOver 92 = .ok (.aload_n 0, 1) := by decide +kernel
theorem dX5_handOver_93 : decode cX5_handOver 93 = .ok (.getfield 62, 3) := by decide +kernel
theorem dX5_handOver_96 : decode cX5_handOver 96 = .ok (.iload_n 1, 1) := by decide +kernel
theorem dX5_handOver_97 : decode cX5_handOver 97 = .ok (.iaload, 1) := by decide +kernel
theorem dX5_handOver_98 : decode cX5_handOver 98 = .ok (.iadd, 1) := by decide +kernel
theorem dX5_handOver_99 : decode cX5_handOver 99 = .ok (.iload_n 3, 1) := by decide +kernel
theorem dX5_handOver_100 : decode cX5_handOver 100 = .ok (.iastore, 1) := by decide +kernel
theorem dX5_handOver_101 : decode cX5_handOver 101 = .ok (.aload_n 0, 1) := by decide +kernel
theorem dX5_handOver_102 : decode cX5_handOver 102 = .ok (.getfield 62, 3) := by decide +kernel
theorem dX5_handOver_105 : decode cX5_handOver 105 = .ok (.iload_n 1, 1) := by decide +kernel
theorem dX5_handOver_106 : decode cX5_handOver 106 = .ok (.dup2, 1) := by decide +kernel
theorem dX5_handOver_107 : decode cX5_handOver 107 = .ok (.iaload, 1) := by decide +kernel
theorem dX5_handOver_108 : decode cX5_handOver 108 = .ok (.iconst 1, 1) := by decide +kernel
theorem dX5_handOver_109 : decode cX5_handOver 109 = .ok (.iadd, 1) := by decide +kernel
theorem dX5_handOver_110 : decode cX5_handOver 110 = .ok (.iastore, 1) := by decide +kernel
theorem dX5_handOver_111 : decode cX5_handOver 111 = .ok (.iload 4, 2) := by decide +kernel
theorem dX5_handOver_113 : decode cX5_handOver 113 = .ok (.ireturn, 1) := by decide +kernel
theorem dX5_areLike_0 : decode cX5_areLike 0 = .ok (.aload_n 0, 1) := by decide +kernel
theorem dX5_areLike_1 : decode cX5_areLike 1 = .ok (.getfield 32, 3) := by decide +kernel
theorem dX5_areLike_4 : decode cX5_areLike 4 = .ok (.iload_n 1, 1) := by decide +kernel
theorem dX5_areLike_5 : decode cX5_areLike 5 = .ok (.iaload, 1) := by decide +kernel
theorem dX5_areLike_6 : decode cX5_areLike 6 = .ok (.aload_n 0, 1) := by decide +kernel
theorem dX5_areLike_7 : decode cX5_areLike 7 = .ok (.getfield 32, 3) := by decide +kernel
theorem dX5_areLike_10 : decode cX5_areLike 10 = .ok (.iload_n 2, 1) := by decide +kernel
theorem dX5_areLike_11 : decode cX5_areLike 11 = .ok (.iaload, 1) := by decide +kernel
theorem dX5_areLike_12 : decode cX5_areLike 12 = .ok (.if_icmp .ne 52, 3) := by decide +kernel
theorem dX5_areLike_15 : decode cX5_areLike 15 = .ok (.aload_n 0, 1) := by decide +kernel
theorem dX5_areLike_16 : decode cX5_areLike 16 = .ok (.getfield 44, 3) := by decide +kernel
theorem dX5_areLike_19 : decode cX5_areLike 19 = .ok (.iload_n 1, 1) := by decide +kernel
theorem dX5_areLike_20 : decode cX5_areLike 20 = .ok (.iaload, 1) := by decide +kernel
theorem dX5_areLike_21 : decode cX5_areLike 21 = .ok (.aload_n 0, 1) := by decide +kernel
theorem dX5_areLike_22 : decode cX5_areLike 22 = .ok (.getfield 44, 3) := by decide +kernel
theorem dX5_areLike_25 : decode cX5_areLike 25 = .ok (.iload_n 2, 1) := by decide +kernel
theorem dX5_areLike_26 : decode cX5_areLike 26 = .ok (.iaload, 1) := by decide +kernel
theorem dX5_areLike_27 : decode cX5_areLike 27 = .ok (.if_icmp .ne 37, 3) := by decide +kernel
theorem dX5_areLike_30 : decode cX5_areLike 30 = .ok (.aload_n 0, 1) := by decide +kernel
theorem dX5_areLike_31 : decode cX5_areLike 31 = .ok (.getfield 35, 3) := by decide +kernel
theorem dX5_areLike_34 : decode cX5_areLike 34 = .ok (.iload_n 1, 1) := by decide +kernel
theorem dX5_areLike_35 : decode cX5_areLike 35 = .ok (.iaload, 1) := by decide +kernel
theorem dX5_areLike_36 : decode cX5_areLike 36 = .ok (.aload_n 0, 1) := by decide +kernel
theorem dX5_areLike_37 : decode cX5_areLike 37 = .ok (.getfield 35, 3) := by decide +kernel
theorem dX5_areLike_40 : decode cX5_areLike 40 = .ok (.iload_n 2, 1) := by decide +kernel
theorem dX5_areLike_41 : decode cX5_areLike 41 = .ok (.iaload, 1) := by decide +kernel
theorem dX5_areLike_42 : decode cX5_areLike 42 = .ok (.if_icmp .ne 22, 3) := by decide +kernel
theorem dX5_areLike_45 : decode cX5_areLike 45 = .ok (.aload_n 0, 1) := by decide +kernel
theorem dX5_areLike_46 : decode cX5_areLike 46 = .ok (.getfield 38, 3) := by decide +kernel
theorem dX5_areLike_49 : decode cX5_areLike 49 = .ok (.iload_n 1, 1) := by decide +kernel
theorem dX5_areLike_50 : decode cX5_areLike 50 = .ok (.iaload, 1) := by decide +kernel
theorem dX5_areLike_51 : decode cX5_areLike 51 = .ok (.aload_n 0, 1) := by decide +kernel
theorem dX5_areLike_52 : decode cX5_areLike 52 = .ok (.getfield 38, 3) := by decide +kernel
theorem dX5_areLike_55 : decode cX5_areLike 55 = .ok (.iload_n 2, 1) := by decide +kernel
theorem dX5_areLike_56 : decode cX5_areLike 56 = .ok (.iaload, 1) := by decide +kernel
theorem dX5_areLike_57 : decode cX5_areLike 57 = .ok (.if_icmp .ne 7, 3) := by decide +kernel
theorem dX5_areLike_60 : decode cX5_areLike 60 = .ok (.iconst 1, 1) := by decide +kernel
theorem dX5_areLike_61 : decode cX5_areLike 61 = .ok (.goto 4, 3) := by decide +kernel
theorem dX5_areLike_64 : decode cX5_areLike 64 = .ok (.iconst 0, 1) := by decide +kernel
theorem dX5_areLike_65 : decode cX5_areLike 65 = .ok (.istore_n 3, 1) := by decide +kernel
theorem dX5_areLike_66 : decode cX5_areLike 66 = .ok (.iload_n 3, 1) := by decide +kernel
theorem dX5_areLike_67 : decode cX5_areLike 67 = .ok (.ifCond .eq 67, 3) := by decide +kernel
theorem dX5_areLike_70 : decode cX5_areLike 70 = .ok (.aload_n 0, 1) := by decide +kernel
theorem dX5_areLike_71 : decode cX5_areLike 71 = .ok (.getfield 41, 3) := by decide +kernel
theorem dX5_areLike_74 : decode cX5_areLike 74 = .ok (.iload_n 1, 1) := by decide +kernel
theorem dX5_areLike_75 : decode cX5_areLike 75 = .ok (.iaload, 1) := by decide +kernel
theorem dX5_areLike_76 : decode cX5_areLike 76 = .ok (.aload_n 0, 1) := by decide +kernel
theorem dX5_areLike_77 : decode cX5_areLike 77 = .ok (.getfield 41, 3) := by decide +kernel
theorem dX5_areLike_80 : decode cX5_areLike 80 = .ok (.iload_n 2, 1) := by decide +kernel
theorem dX5_areLike_81 : decode cX5_areLike 81 = .ok (.iaload, 1) := by decide +kernel
theorem dX5_areLike_82 : decode cX5_areLike 82 = .ok (.if_icmp .ne 52, 3) := by decide +kernel
theorem dX5_areLike_85 : decode cX5_areLike 85 = .ok (.aload_n 0, 1) := by decide +kernel
theorem dX5_areLike_86 : decode cX5_areLike 86 = .ok (.getfield 47, 3) := by decide +kernel
theorem dX5_areLike_89 : decode cX5_areLike 89 = .ok (.iload_n 1, 1) := by decide +kernel
theorem dX5_areLike_90 : decode cX5_areLike 90 = .ok (.iaload, 1) := by decide +kernel
theorem dX5_areLike_91 : decode cX5_areLike 91 = .ok (.aload_n 0, 1) := by decide +kernel
theorem dX5_areLike_92 : decode cX5_areLike 92 = .ok (.getfield 47, 3) := by decide +kernel
theorem dX5_areLike_95 : decode cX5_areLike 95 = .ok (.iload_n 2, 1) := by decide +kernel
theorem dX5_areLike_96 : decode cX5_areLike 96 = .ok (.iaload, 1) := by decide +kernel
theorem dX5_areLike_97 : decode cX5_areLike 97 = .ok (.if_icmp .ne 37, 3) := by decide +kernel
theorem dX5_areLike_100 : decode cX5_areLike 100 = .ok (.aload_n 0, 1) := by decide +kernel
theorem dX5_areLike_101 : decode cX5_areLike 101 = .ok (.getfield 50, 3) := by decide +kernel
theorem dX5_areLike_104 : decode cX5_areLike 104 = .ok (.iload_n 1, 1) := by decide +kernel
theorem dX5_areLike_105 : decode cX5_areLike 105 = .ok (.iaload, 1) := by decide +kernel
theorem dX5_areLike_106 : decode cX5_areLike 106 = .ok (.aload_n 0, 1) := by decide +kernel
theorem dX5_areLike_107 : decode cX5_areLike 107 = .ok (.getfield 50, 3) := by decide +kernel
theorem dX5_areLike_110 : decode cX5_areLike 110 = .ok (.iload_n 2, 1) := by decide +kernel
theorem dX5_areLike_111 : decode cX5_areLike 111 = .ok (.iaload, 1) := by decide +kernel
theorem dX5_areLike_112 : decode cX5_areLike 112 = .ok (.if_icmp .ne 22, 3) := by decide +kernel
theorem dX5_areLike_115 : decode cX5_areLike 115 = .ok (.aload_n 0, 1) := by decide +kernel
theorem dX5_areLike_116 : decode cX5_areLike 116 = .ok (.getfield 29, 3) := by decide +kernel
theorem dX5_areLike_119 : decode cX5_areLike 119 = .ok (.iload_n 1, 1) := by decide +kernel
theorem dX5_areLike_120 : decode cX5_areLike 120 = .ok (.baload, 1) := by decide +kernel
theorem dX5_areLike_121 : decode cX5_areLike 121 = .ok (.aload_n 0, 1) := by decide +kernel
theorem dX5_areLike_122 : decode cX5_areLike 122 = .ok (.getfield 29, 3) := by decide +kernel
theorem dX5_areLike_125 : decode cX5_areLike 125 = .ok (.iload_n 2, 1) := by decide +kernel
theorem dX5_areLike_126 : decode cX5_areLike 126 = .ok (.baload, 1) := by decide +kernel
theorem dX5_areLike_127 : decode cX5_areLike 127 = .ok (.if_icmp .eq 7, 3) := by decide +kernel
theorem dX5_areLike_130 : decode cX5_areLike 130 = .ok (.iconst 1, 1) := by decide +kernel
theorem dX5_areLike_131 : decode cX5_areLike 131 = .ok (.goto 4, 3) := by decide +kernel
theorem dX5_areLike_134 : decode cX5_areLike 134 = .ok (.iconst 0, 1) := by decide +kernel
theorem dX5_areLike_135 : decode cX5_areLike 135 = .ok (.ireturn, 1) := by decide +kernel
theorem dX5_haveOneParty_0 : decode cX5_haveOneParty 0 = .ok (.iconst 0, 1) := by decide +kernel
theorem dX5_haveOneParty_1 : decode cX5_haveOneParty 1 = .ok (.istore 4, 2) := by decide +kernel
theorem dX5_haveOneParty_3 : decode cX5_haveOneParty 3 = .ok (.iconst 1, 1) := by decide +kernel
theorem dX5_haveOneParty_4 : decode cX5_haveOneParty 4 = .ok (.istore 5, 2) := by decide +kernel
theorem dX5_haveOneParty_6 : decode cX5_haveOneParty 6 = .ok (.iconst 0, 1) := by decide +kernel
theorem dX5_haveOneParty_7 : decode cX5_haveOneParty 7 = .ok (.istore 6, 2) := by decide +kernel
theorem dX5_haveOneParty_9 : decode cX5_haveOneParty 9 = .ok (.iload 6, 2) := by decide +kernel
theorem dX5_haveOneParty_11 : decode cX5_haveOneParty 11 = .ok (.aload_n 0, 1) := by decide +kernel
theorem dX5_haveOneParty_12 : decode cX5_haveOneParty 12 = .ok (.getfield 41, 3) := by decide +kernel
theorem dX5_haveOneParty_15 : decode cX5_haveOneParty 15 = .ok (.iload_n 1, 1) := by decide +kernel
theorem dX5_haveOneParty_16 : decode cX5_haveOneParty 16 = .ok (.iaload, 1) := by decide +kernel
theorem dX5_haveOneParty_17 : decode cX5_haveOneParty 17 = .ok (.if_icmp .ge 66, 3) := by decide +kernel
theorem dX5_haveOneParty_20 : decode cX5_haveOneParty 20 = .ok (.aload_n 0, 1) := by decide +kernel
theorem dX5_haveOneParty_21 : decode cX5_haveOneParty 21 = .ok (.iload_n 1, 1) := by decide +kernel
theorem dX5_haveOneParty_22 : decode cX5_haveOneParty 22 = .ok (.iload 6, 2) := by decide +kernel
theorem dX5_haveOneParty_24 : decode cX5_haveOneParty 24 = .ok (.invokevirtual 128, 3) := by decide +kernel
theorem dX5_haveOneParty_27 : decode cX5_haveOneParty 27 = .ok (.iload_n 3, 1) := by decide +kernel
theorem dX5_haveOneParty_28 : decode cX5_haveOneParty 28 = .ok (.if_icmp .lt 49, 3) := by decide +kernel
theorem dX5_haveOneParty_31 : decode cX5_haveOneParty 31 = .ok (.iinc 4 1, 3) := by decide +kernel
theorem dX5_haveOneParty_34 : decode cX5_haveOneParty 34 = .ok (.iload 5, 2) := by decide +kernel
theorem dX5_haveOneParty_36 : decode cX5_haveOneParty 36 = .ok (.ifCond .eq 38, 3) := by decide +kernel
theorem dX5_haveOneParty_39 : decode cX5_haveOneParty 39 = .ok (.aload_n 0, 1) := by decide +kernel
theorem dX5_haveOneParty_40 : decode cX5_haveOneParty 40 = .ok (.iload_n 1, 1) := by decide +kernel
theorem dX5_haveOneParty_41 : decode cX5_haveOneParty 41 = .ok (.aload_n 0, 1) := by decide +kernel
theorem dX5_haveOneParty_42 : decode cX5_haveOneParty 42 = .ok (.iload_n 1, 1) := by decide +kernel
theorem dX5_haveOneParty_43 : decode cX5_haveOneParty 43 = .ok (.iload 6, 2) := by decide +kernel
theorem dX5_haveOneParty_45 : decode cX5_haveOneParty 45 = .ok (.iconst 1, 1) := by decide +kernel
theorem dX5_haveOneParty_46 : decode cX5_haveOneParty 46 = .ok (.iadd, 1) := by decide +kernel
theorem dX5_haveOneParty_47 : decode cX5_haveOneParty 47 = .ok (.invokevirtual 128, 3) := by decide +kernel
theorem dX5_haveOneParty_50 : decode cX5_haveOneParty 50 = .ok (.invokevirtual 125, 3) := by decide +kernel
theorem dX5_haveOneParty_53 : decode cX5_haveOneParty 53 = .ok (.aload_n 0, 1) := by decide +kernel
theorem dX5_haveOneParty_54 : decode cX5_haveOneParty 54 = .ok (.iload_n 2, 1) := by decide +kernel
theorem dX5_haveOneParty_55 : decode cX5_haveOneParty 55 = .ok (.aload_n 0, 1) := by decide +kernel
theorem dX5_haveOneParty_56 : decode cX5_haveOneParty 56 = .ok (.iload_n 1, 1) := by decide +kernel
theorem dX5_haveOneParty_57 : decode cX5_haveOneParty 57 = .ok (.iload 6, 2) := by decide +kernel
theorem dX5_haveOneParty_59 : decode cX5_haveOneParty 59 = .ok (.iconst 1, 1) := by decide +kernel
theorem dX5_haveOneParty_60 : decode cX5_haveOneParty 60 = .ok (.iadd, 1) := by decide +kernel
theorem dX5_haveOneParty_61 : decode cX5_haveOneParty 61 = .ok (.invokevirtual 128, 3) := by decide +kernel
theorem dX5_haveOneParty_64 : decode cX5_haveOneParty 64 = .ok (.invokevirtual 125, 3) := by decide +kernel
theorem dX5_haveOneParty_67 : decode cX5_haveOneParty 67 = .ok (.if_icmp .ne 7, 3) := by decide +kernel
theorem dX5_haveOneParty_70 : decode cX5_haveOneParty 70 = .ok (.iconst 1, 1) := by decide +kernel
theorem dX5_haveOneParty_71 : decode cX5_haveOneParty 71 = .ok (.goto 4, 3) := by decide +kernel
theorem dX5_haveOneParty_74 : decode cX5_haveOneParty 74 = .ok (.iconst 0, 1) := by decide +kernel
theorem dX5_haveOneParty_75 : decode cX5_haveOneParty 75 = .ok (.istore 5, 2) := by decide +kernel
theorem dX5_haveOneParty_77 : decode cX5_haveOneParty 77 = .ok (.iinc 6 1, 3) := by decide +kernel
theorem dX5_haveOneParty_80 : decode cX5_haveOneParty 80 = .ok (.goto (-71), 3) := by decide +kernel
theorem dX5_haveOneParty_83 : decode cX5_haveOneParty 83 = .ok (.iload 5, 2) := by decide +kernel
theorem dX5_haveOneParty_85 : decode cX5_haveOneParty 85 = .ok (.ifCond .eq 12, 3) := by decide +kernel
theorem dX5_haveOneParty_88 : decode cX5_haveOneParty 88 = .ok (.iload 4, 2) := by decide +kernel
theorem dX5_haveOneParty_90 : decode cX5_haveOneParty 90 = .ok (.ifCond .le 7, 3) := by decide +kernel
theorem dX5_haveOneParty_93 : decode cX5_haveOneParty 93 = .ok (.iconst 1, 1) := by decide +kernel
theorem dX5_haveOneParty_94 : decode cX5_haveOneParty 94 = .ok (.goto 4, 3) := by decide +kernel
theorem dX5_haveOneParty_97 : decode cX5_haveOneParty 97 = .ok (.iconst 0, 1) := by decide +kernel
theorem dX5_haveOneParty_98 : decode cX5_haveOneParty 98 = .ok (.ireturn, 1) := by decide +kernel
theorem dX5_press_0 : decode cX5_press 0 = .ok (.aload_n 0, 1) := by decide +kernel
theorem dX5_press_1 : decode cX5_press 1 = .ok (.iload_n 1, 1) := by decide +kernel
theorem dX5_press_2 : decode cX5_press 2 = .ok (.invokestatic 89, 3) := by decide +kernel
theorem dX5_press_5 : decode cX5_press 5 = .ok (.ifCond .eq 7, 3) := by decide +kernel
theorem dX5_press_8 : decode cX5_press 8 = .ok (.iconst 0, 1) := by decide +kernel
theorem dX5_press_9 : decode cX5_press 9 = .ok (.goto 4, 3) := by decide +kernel
theorem dX5_press_12 : decode cX5_press 12 = .ok (.iconst 1, 1) := by decide +kernel
theorem dX5_press_13 : decode cX5_press 13 = .ok (.putfield 71, 3) := by decide +kernel
theorem dX5_press_16 : decode cX5_press 16 = .ok (.iconst 0, 1) := by decide +kernel
theorem dX5_press_17 : decode cX5_press 17 = .ok (.istore_n 2, 1) := by decide +kernel
theorem dX5_press_18 : decode cX5_press 18 = .ok (.iconst 0, 1) := by decide +kernel
theorem dX5_press_19 : decode cX5_press 19 = .ok (.istore_n 3, 1) := by decide +kernel
theorem dX5_press_20 : decode cX5_press 20 = .ok (.iload_n 3, 1) := by decide +kernel
theorem dX5_press_21 : decode cX5_press 21 = .ok (.aload_n 0, 1) := by decide +kernel
theorem dX5_press_22 : decode cX5_press 22 = .ok (.getfield 79, 3) := by decide +kernel
theorem dX5_press_25 : decode cX5_press 25 = .ok (.if_icmp .ge 114, 3) := by decide +kernel
theorem dX5_press_28 : decode cX5_press 28 = .ok (.aload_n 0, 1) := by decide +kernel
theorem dX5_press_29 : decode cX5_press 29 = .ok (.getfield 71, 3) := by decide +kernel
theorem dX5_press_32 : decode cX5_press 32 = .ok (.ifCond .ne 107, 3) := by decide +kernel
theorem dX5_press_35 : decode cX5_press 35 = .ok (.iload_n 3, 1) := by decide +kernel
theorem dX5_press_36 : decode cX5_press 36 = .ok (.iconst 1, 1) := by decide +kernel
theorem dX5_press_37 : decode cX5_press 37 = .ok (.iadd, 1) := by decide +kernel
theorem dX5_press_38 : decode cX5_press 38 = .ok (.istore 4, 2) := by decide +kernel
theorem dX5_press_40 : decode cX5_press 40 = .ok (.iload 4, 2) := by decide +kernel
theorem dX5_press_42 : decode cX5_press 42 = .ok (.aload_n 0, 1) := by decide +kernel
theorem dX5_press_43 : decode cX5_press 43 = .ok (.getfield 79, 3) := by decide +kernel
theorem dX5_press_46 : decode cX5_press 46 = .ok (.if_icmp .ge 87, 3) := by decide +kernel
theorem dX5_press_49 : decode cX5_press 49 = .ok (.aload_n 0, 1) := by decide +kernel
theorem dX5_press_50 : decode cX5_press 50 = .ok (.iload_n 3, 1) := by decide +kernel
theorem dX5_press_51 : decode cX5_press 51 = .ok (.invokevirtual 118, 3) := by decide +kernel
theorem dX5_press_54 : decode cX5_press 54 = .ok (.aload_n 0, 1) := by decide +kernel
theorem dX5_press_55 : decode cX5_press 55 = .ok (.iload 4, 2) := by decide +kernel
theorem dX5_press_57 : decode cX5_press 57 = .ok (.invokevirtual 118, 3) := by decide +kernel
theorem dX5_press_60 : decode cX5_press 60 = .ok (.if_icmp .ge 11, 3) := by decide +kernel
theorem dX5_press_63 : decode cX5_press 63 = .ok (.aload_n 0, 1) := by decide +kernel
theorem dX5_press_64 : decode cX5_press 64 = .ok (.iload_n 3, 1) := by decide +kernel
theorem dX5_press_65 : decode cX5_press 65 = .ok (.invokevirtual 118, 3) := by decide +kernel
theorem dX5_press_68 : decode cX5_press 68 = .ok (.goto 9, 3) := by decide +kernel
theorem dX5_press_71 : decode cX5_press 71 = .ok (.aload_n 0, 1) := by decide +kernel
theorem dX5_press_72 : decode cX5_press 72 = .ok (.iload 4, 2) := by decide +kernel
theorem dX5_press_74 : decode cX5_press 74 = .ok (.invokevirtual 118, 3) := by decide +kernel
theorem dX5_press_77 : decode cX5_press 77 = .ok (.istore 5, 2) := by decide +kernel
theorem dX5_press_79 : decode cX5_press 79 = .ok (.iload 5, 2) := by decide +kernel
theorem dX5_press_81 : decode cX5_press 81 = .ok (.ifCond .le 46, 3) := by decide +kernel
theorem dX5_press_84 : decode cX5_press 84 = .ok (.aload_n 0, 1) := by decide +kernel
theorem dX5_press_85 : decode cX5_press 85 = .ok (.iload_n 3, 1) := by decide +kernel
theorem dX5_press_86 : decode cX5_press 86 = .ok (.iload 4, 2) := by decide +kernel
theorem dX5_press_88 : decode cX5_press 88 = .ok (.invokevirtual 131, 3) := by decide +kernel
theorem dX5_press_91 : decode cX5_press 91 = .ok (.ifCond .eq 36, 3) := by decide +kernel
theorem dX5_press_94 : decode cX5_press 94 = .ok (.aload_n 0, 1) := by decide +kernel
theorem dX5_press_95 : decode cX5_press 95 = .ok (.iload_n 3, 1) := by decide +kernel
theorem dX5_press_96 : decode cX5_press 96 = .ok (.iload 4, 2) := by decide +kernel
theorem dX5_press_98 : decode cX5_press 98 = .ok (.iload_n 1, 1) := by decide +kernel
theorem dX5_press_99 : decode cX5_press 99 = .ok (.invokevirtual 135, 3) := by decide +kernel
theorem dX5_press_102 : decode cX5_press 102 = .ok (.ifCond .eq 25, 3) := by decide +kernel
theorem dX5_press_105 : decode cX5_press 105 = .ok (.aload_n 0, 1) := by decide +kernel
theorem dX5_press_106 : decode cX5_press 106 = .ok (.iload_n 3, 1) := by decide +kernel
theorem dX5_press_107 : decode cX5_press 107 = .ok (.iload_n 1, 1) := by decide +kernel
theorem dX5_press_108 : decode cX5_press 108 = .ok (.iload 5, 2) := by decide +kernel
theorem dX5_press_110 : decode cX5_press 110 = .ok (.invokevirtual 121, 3) := by decide +kernel
theorem dX5_press_113 : decode cX5_press 113 = .ok (.aload_n 0, 1) := by decide +kernel
theorem dX5_press_114 : decode cX5_press 114 = .ok (.iload 4, 2) := by decide +kernel
theorem dX5_press_116 : decode cX5_press 116 = .ok (.iload_n 1, 1) := by decide +kernel
theorem dX5_press_117 : decode cX5_press 117 = .ok (.iload 5, 2) := by decide +kernel
theorem dX5_press_119 : decode cX5_press 119 = .ok (.invokevirtual 121, 3) := by decide +kernel
theorem dX5_press_122 : decode cX5_press 122 = .ok (.iload_n 2, 1) := by decide +kernel
theorem dX5_press_123 : decode cX5_press 123 = .ok (.iload 5, 2) := by decide +kernel
theorem dX5_press_125 : decode cX5_press 125 = .ok (.iadd, 1) := by decide +kernel
theorem dX5_press_126 : decode cX5_press 126 = .ok (.istore_n 2, 1) := by decide +kernel
theorem dX5_press_127 : decode cX5_press 127 = .ok (.iinc 4 1, 3) := by decide +kernel
theorem dX5_press_130 : decode cX5_press 130 = .ok (.goto (-90), 3) := by decide +kernel
theorem dX5_press_133 : decode cX5_press 133 = .ok (.iinc 3 1, 3) := by decide +kernel
theorem dX5_press_136 : decode cX5_press 136 = .ok (.goto (-116), 3) := by decide +kernel
theorem dX5_press_139 : decode cX5_press 139 = .ok (.iload_n 2, 1) := by decide +kernel
theorem dX5_press_140 : decode cX5_press 140 = .ok (.ireturn, 1) := by decide +kernel
theorem dX5_trades_0 : decode cX5_trades 0 = .ok (.aload_n 0, 1) := by decide +kernel
theorem dX5_trades_1 : decode cX5_trades 1 = .ok (.iconst 0, 1) := by decide +kernel
theorem dX5_trades_2 : decode cX5_trades 2 = .ok (.putfield 71, 3) := by decide +kernel
theorem dX5_trades_5 : decode cX5_trades 5 = .ok (.aload_n 0, 1) := by decide +kernel
theorem dX5_trades_6 : decode cX5_trades 6 = .ok (.getfield 79, 3) := by decide +kernel
theorem dX5_trades_9 : decode cX5_trades 9 = .ok (.ireturn, 1) := by decide +kernel
theorem dX5_begins_0 : decode cX5_begins 0 = .ok (.aload_n 0, 1) := by decide +kernel
theorem dX5_begins_1 : decode cX5_begins 1 = .ok (.aload_n 0, 1) := by decide +kernel
theorem dX5_begins_2 : decode cX5_begins 2 = .ok (.getfield 35, 3) := by decide +kernel
theorem dX5_begins_5 : decode cX5_begins 5 = .ok (.iload_n 1, 1) := by decide +kernel
theorem dX5_begins_6 : decode cX5_begins 6 = .ok (.iaload, 1) := by decide +kernel
theorem dX5_begins_7 : decode cX5_begins 7 = .ok (.iload_n 2, 1) := by decide +kernel
theorem dX5_begins_8 : decode cX5_begins 8 = .ok (.aload_n 0, 1) := by decide +kernel
theorem dX5_begins_9 : decode cX5_begins 9 = .ok (.getfield 38, 3) := by decide +kernel
theorem dX5_begins_12 : decode cX5_begins 12 = .ok (.iload_n 1, 1) := by decide +kernel
theorem dX5_begins_13 : decode cX5_begins 13 = .ok (.iaload, 1) := by decide +kernel
theorem dX5_begins_14 : decode cX5_begins 14 = .ok (.imul, 1) := by decide +kernel
theorem dX5_begins_15 : decode cX5_begins 15 = .ok (.iadd, 1) := by decide +kernel
theorem dX5_begins_16 : decode cX5_begins 16 = .ok (.invokevirtual 92, 3) := by decide +kernel
theorem dX5_begins_19 : decode cX5_begins 19 = .ok (.ireturn, 1) := by decide +kernel
theorem dX5_days_0 : decode cX5_days 0 = .ok (.aload_n 0, 1) := by decide +kernel
theorem dX5_days_1 : decode cX5_days 1 = .ok (.getfield 47, 3) := by decide +kernel
theorem dX5_days_4 : decode cX5_days 4 = .ok (.iload_n 1, 1) := by decide +kernel
theorem dX5_days_5 : decode cX5_days 5 = .ok (.iaload, 1) := by decide +kernel
theorem dX5_days_6 : decode cX5_days 6 = .ok (.iconst 1, 1) := by decide +kernel
theorem dX5_days_7 : decode cX5_days 7 = .ok (.if_icmp .ne 12, 3) := by decide +kernel
theorem dX5_days_10 : decode cX5_days 10 = .ok (.aload_n 0, 1) := by decide +kernel
theorem dX5_days_11 : decode cX5_days 11 = .ok (.getfield 38, 3) := by decide +kernel
theorem dX5_days_14 : decode cX5_days 14 = .ok (.iload_n 1, 1) := by decide +kernel
theorem dX5_days_15 : decode cX5_days 15 = .ok (.iaload, 1) := by decide +kernel
theorem dX5_days_16 : decode cX5_days 16 = .ok (.goto 18, 3) := by decide +kernel
theorem dX5_days_19 : decode cX5_days 19 = .ok (.aload_n 0, 1) := by decide +kernel
theorem dX5_days_20 : decode cX5_days 20 = .ok (.iload_n 1, 1) := by decide +kernel
theorem dX5_days_21 : decode cX5_days 21 = .ok (.iload_n 2, 1) := by decide +kernel
theorem dX5_days_22 : decode cX5_days 22 = .ok (.iconst 1, 1) := by decide +kernel
theorem dX5_days_23 : decode cX5_days 23 = .ok (.iadd, 1) := by decide +kernel
theorem dX5_days_24 : decode cX5_days 24 = .ok (.invokevirtual 128, 3) := by decide +kernel
theorem dX5_days_27 : decode cX5_days 27 = .ok (.aload_n 0, 1) := by decide +kernel
theorem dX5_days_28 : decode cX5_days 28 = .ok (.iload_n 1, 1) := by decide +kernel
theorem dX5_days_29 : decode cX5_days 29 = .ok (.iload_n 2, 1) := by decide +kernel
theorem dX5_days_30 : decode cX5_days 30 = .ok (.invokevirtual 128, 3) := by decide +kernel
theorem dX5_days_33 : decode cX5_days 33 = .ok (.isub, 1) := by decide +kernel
theorem dX5_days_34 : decode cX5_days 34 = .ok (.ireturn, 1) := by decide +kernel
theorem dX5_lotsOf_0 : decode cX5_lotsOf 0 = .ok (.aload_n 0, 1) := by decide +kernel
theorem dX5_lotsOf_1 : decode cX5_lotsOf 1 = .ok (.getfield 26, 3) := by decide +kernel
theorem dX5_lotsOf_4 : decode cX5_lotsOf 4 = .ok (.iload_n 1, 1) := by decide +kernel
theorem dX5_lotsOf_5 : decode cX5_lotsOf 5 = .ok (.iaload, 1) := by decide +kernel
theorem dX5_lotsOf_6 : decode cX5_lotsOf 6 = .ok (.aload_n 0, 1) := by decide +kernel
theorem dX5_lotsOf_7 : decode cX5_lotsOf 7 = .ok (.iload_n 1, 1) := by decide +kernel
theorem dX5_lotsOf_8 : decode cX5_lotsOf 8 = .ok (.aload_n 0, 1) := by decide +kernel
theorem dX5_lotsOf_9 : decode cX5_lotsOf 9 = .ok (.iload_n 1, 1) := by decide +kernel
theorem dX5_lotsOf_10 : decode cX5_lotsOf 10 = .ok (.iload_n 2, 1) := by decide +kernel
theorem dX5_lotsOf_11 : decode cX5_lotsOf 11 = .ok (.invokevirtual 128, 3) := by decide +kernel
theorem dX5_lotsOf_14 : decode cX5_lotsOf 14 = .ok (.invokevirtual 111, 3) := by decide +kernel
theorem dX5_lotsOf_17 : decode cX5_lotsOf 17 = .ok (.isub, 1) := by decide +kernel
theorem dX5_lotsOf_18 : decode cX5_lotsOf 18 = .ok (.ireturn, 1) := by decide +kernel
theorem dX5_floor_0 : decode cX5_floor 0 = .ok (.lload_n 0, 1) := by decide +kernel
theorem dX5_floor_1 : decode cX5_floor 1 = .ok (.lload_n 2, 1) := by decide +kernel
theorem dX5_floor_2 : decode cX5_floor 2 = .ok (.ldiv, 1) := by decide +kernel
theorem dX5_floor_3 : decode cX5_floor 3 = .ok (.lstore 4, 2) := by decide +kernel
theorem dX5_floor_5 : decode cX5_floor 5 = .ok (.lload 4, 2) := by decide +kernel
theorem dX5_floor_7 : decode cX5_floor 7 = .ok (.lload_n 2, 1) := by decide +kernel
theorem dX5_floor_8 : decode cX5_floor 8 = .ok (.lmul, 1) := by decide +kernel
theorem dX5_floor_9 : decode cX5_floor 9 = .ok (.lload_n 0, 1) := by decide +kernel
theorem dX5_floor_10 : decode cX5_floor 10 = .ok (.lcmp, 1) := by decide +kernel
theorem dX5_floor_11 : decode cX5_floor 11 = .ok (.ifCond .le 10, 3) := by decide +kernel
theorem dX5_floor_14 : decode cX5_floor 14 = .ok (.lload 4, 2) := by decide +kernel
theorem dX5_floor_16 : decode cX5_floor 16 = .ok (.lconst 1, 1) := by decide +kernel
theorem dX5_floor_17 : decode cX5_floor 17 = .ok (.lsub, 1) := by decide +kernel
theorem dX5_floor_18 : decode cX5_floor 18 = .ok (.goto 5, 3) := by decide +kernel
theorem dX5_floor_21 : decode cX5_floor 21 = .ok (.lload 4, 2) := by decide +kernel
theorem dX5_floor_23 : decode cX5_floor 23 = .ok (.lreturn, 1) := by decide +kernel
theorem dX5_floats_0 : decode cX5_floats 0 = .ok (.lconst 0, 1) := by decide +kernel
theorem dX5_floats_1 : decode cX5_floats 1 = .ok (.lstore_n 3, 1) := by decide +kernel
theorem dX5_floats_2 : decode cX5_floats 2 = .ok (.lconst 0, 1) := by decide +kernel
theorem dX5_floats_3 : decode cX5_floats 3 = .ok (.lstore 5, 2) := by decide +kernel
theorem dX5_floats_5 : decode cX5_floats 5 = .ok (.iconst 0, 1) := by decide +kernel
theorem dX5_floats_6 : decode cX5_floats 6 = .ok (.istore 7, 2) := by decide +kernel
theorem dX5_floats_8 : decode cX5_floats 8 = .ok (.iload 7, 2) := by decide +kernel
theorem dX5_floats_10 : decode cX5_floats 10 = .ok (.iload_n 2, 1) := by decide +kernel
theorem dX5_floats_11 : decode cX5_floats 11 = .ok (.if_icmp .gt 139, 3) := by decide +kernel
theorem dX5_floats_14 : decode cX5_floats 14 = .ok (.aload_n 0, 1) := by decide +kernel
theorem dX5_floats_15 : decode cX5_floats 15 = .ok (.aload_n 0, 1) := by decide +kernel
theorem dX5_floats_16 : decode cX5_floats 16 = .ok (.iload_n 1, 1) := by decide +kernel
theorem dX5_floats_17 : decode cX5_floats 17 = .ok (.iload 7, 2) := by decide +kernel
theorem dX5_floats_19 : decode cX5_floats 19 = .ok (.invokevirtual 128, 3) := by decide +kernel
theorem dX5_floats_22 : decode cX5_floats 22 = .ok (.invokevirtual 102, 3) := by decide +kernel
theorem dX5_floats_25 : decode cX5_floats 25 = .ok (.i2l, 1) := by decide +kernel
theorem dX5_floats_26 : decode cX5_floats 26 = .ok (.lstore 8, 2) := by decide +kernel
theorem dX5_floats_28 : decode cX5_floats 28 = .ok (.aload_n 0, 1) := by decide +kernel
theorem dX5_floats_29 : decode cX5_floats 29 = .ok (.iload_n 1, 1) := by decide +kernel
theorem dX5_floats_30 : decode cX5_floats 30 = .ok (.iload 7, 2) := by decide +kernel
theorem dX5_floats_32 : decode cX5_floats 32 = .ok (.invokevirtual 138, 3) := by decide +kernel
theorem dX5_floats_35 : decode cX5_floats 35 = .ok (.i2l, 1) := by decide +kernel
theorem dX5_floats_36 : decode cX5_floats 36 = .ok (.lstore 10, 2) := by decide +kernel
theorem dX5_floats_38 : decode cX5_floats 38 = .ok (.aload_n 0, 1) := by decide +kernel
theorem dX5_floats_39 : decode cX5_floats 39 = .ok (.getfield 50, 3) := by decide +kernel
theorem dX5_floats_42 : decode cX5_floats 42 = .ok (.iload_n 1, 1) := by decide +kernel
theorem dX5_floats_43 : decode cX5_floats 43 = .ok (.iaload, 1) := by decide +kernel
theorem dX5_floats_44 : decode cX5_floats 44 = .ok (.iconst 1, 1) := by decide +kernel
theorem dX5_floats_45 : decode cX5_floats 45 = .ok (.if_icmp .ne 16, 3) := by decide +kernel
theorem dX5_floats_48 : decode cX5_floats 48 = .ok (.lload 8, 2) := by decide +kernel
theorem dX5_floats_50 : decode cX5_floats 50 = .ok (.aload_n 0, 1) := by decide +kernel
theorem dX5_floats_51 : decode cX5_floats 51 = .ok (.getfield 44, 3) := by decide +kernel
theorem dX5_floats_54 : decode cX5_floats 54 = .ok (.iload_n 1, 1) := by decide +kernel
theorem dX5_floats_55 : decode cX5_floats 55 = .ok (.iaload, 1) := by decide +kernel
theorem dX5_floats_56 : decode cX5_floats 56 = .ok (.i2l, 1) := by decide +kernel
theorem dX5_floats_57 : decode cX5_floats 57 = .ok (.ladd, 1) := by decide +kernel
theorem dX5_floats_58 : decode cX5_floats 58 = .ok (.goto 5, 3) := by decide +kernel
theorem dX5_floats_61 : decode cX5_floats 61 = .ok (.lload 8, 2) := by decide +kernel
theorem dX5_floats_63 : decode cX5_floats 63 = .ok (.lstore 12, 2) := by decide +kernel
theorem dX5_floats_65 : decode cX5_floats 65 = .ok (.ldc2_w 141, 3) := by decide +kernel
theorem dX5_floats_68 : decode cX5_floats 68 = .ok (.lload_n 3, 1) := by decide +kernel
theorem dX5_floats_69 : decode cX5_floats 69 = .ok (.ladd, 1) := by decide +kernel
theorem dX5_floats_70 : decode cX5_floats 70 = .ok (.lload 12, 2) := by decide +kernel
theorem dX5_floats_72 : decode cX5_floats 72 = .ok (.lmul, 1) := by decide +kernel
theorem dX5_floats_73 : decode cX5_floats 73 = .ok (.lload 10, 2) := by decide +kernel
theorem dX5_floats_75 : decode cX5_floats 75 = .ok (.lmul, 1) := by decide +kernel
theorem dX5_floats_76 : decode cX5_floats 76 = .ok (.ldc2_w 141, 3) := by decide +kernel
theorem dX5_floats_79 : decode cX5_floats 79 = .ok (.invokestatic 143, 3) := by decide +kernel
theorem dX5_floats_82 : decode cX5_floats 82 = .ok (.lstore 14, 2) := by decide +kernel
theorem dX5_floats_84 : decode cX5_floats 84 = .ok (.aload_n 0, 1) := by decide +kernel
theorem dX5_floats_85 : decode cX5_floats 85 = .ok (.getfield 50, 3) := by decide +kernel
theorem dX5_floats_88 : decode cX5_floats 88 = .ok (.iload_n 1, 1) := by decide +kernel
theorem dX5_floats_89 : decode cX5_floats 89 = .ok (.iaload, 1) := by decide +kernel
theorem dX5_floats_90 : decode cX5_floats 90 = .ok (.ifCond .ne 19, 3) := by decide +kernel
theorem dX5_floats_93 : decode cX5_floats 93 = .ok (.lload 8, 2) := by decide +kernel
theorem dX5_floats_95 : decode cX5_floats 95 = .ok (.aload_n 0, 1) := by decide +kernel
theorem dX5_floats_96 : decode cX5_floats 96 = .ok (.getfield 44, 3) := by decide +kernel
theorem dX5_floats_99 : decode cX5_floats 99 = .ok (.iload_n 1, 1) := by decide +kernel
theorem dX5_floats_100 : decode cX5_floats 100 = .ok (.iaload, 1) := by decide +kernel
theorem dX5_floats_101 : decode cX5_floats 101 = .ok (.i2l, 1) := by decide +kernel
theorem dX5_floats_102 : decode cX5_floats 102 = .ok (.ladd, 1) := by decide +kernel
theorem dX5_floats_103 : decode cX5_floats 103 = .ok (.lload 10, 2) := by decide +kernel
theorem dX5_floats_105 : decode cX5_floats 105 = .ok (.lmul, 1) := by decide +kernel
theorem dX5_floats_106 : decode cX5_floats 106 = .ok (.goto 31, 3) := by decide +kernel
theorem dX5_floats_109 : decode cX5_floats 109 = .ok (.aload_n 0, 1) := by decide +kernel
theorem dX5_floats_110 : decode cX5_floats 110 = .ok (.getfield 50, 3) := by decide +kernel
theorem dX5_floats_113 : decode cX5_floats 113 = .ok (.iload_n 1, 1) := by decide +kernel
theorem dX5_floats_114 : decode cX5_floats 114 = .ok (.iaload, 1) := by decide +kernel
theorem dX5_floats_115 : decode cX5_floats 115 = .ok (.iconst 1, 1) := by decide +kernel
theorem dX5_floats_116 : decode cX5_floats 116 = .ok (.if_icmp .ne 8, 3) := by decide +kernel
theorem dX5_floats_119 : decode cX5_floats 119 = .ok (.lload 14, 2) := by decide +kernel
theorem dX5_floats_121 : decode cX5_floats 121 = .ok (.goto 16, 3) := by decide +kernel
theorem dX5_floats_124 : decode cX5_floats 124 = .ok (.lload 14, 2) := by decide +kernel
theorem dX5_floats_126 : decode cX5_floats 126 = .ok (.aload_n 0, 1) := by decide +kernel
theorem dX5_floats_127 : decode cX5_floats 127 = .ok (.getfield 44, 3) := by decide +kernel
theorem dX5_floats_130 : decode cX5_floats 130 = .ok (.iload_n 1, 1) := by decide +kernel
theorem dX5_floats_131 : decode cX5_floats 131 = .ok (.iaload, 1) := by decide +kernel
theorem dX5_floats_132 : decode cX5_floats 132 = .ok (.i2l, 1) := by decide +kernel
theorem dX5_floats_133 : decode cX5_floats 133 = .ok (.lload 10, 2) := by decide +kernel
theorem dX5_floats_135 : decode cX5_floats 135 = .ok (.lmul, 1) := by decide +kernel
theorem dX5_floats_136 : decode cX5_floats 136 = .ok (.ladd, 1) := by decide +kernel
theorem dX5_floats_137 : decode cX5_floats 137 = .ok (.lstore 5, 2) := by decide +kernel
theorem dX5_floats_139 : decode cX5_floats 139 = .ok (.lload_n 3, 1) := by decide +kernel
theorem dX5_floats_140 : decode cX5_floats 140 = .ok (.lload 14, 2) := by decide +kernel
theorem dX5_floats_142 : decode cX5_floats 142 = .ok (.ladd, 1) := by decide +kernel
theorem dX5_floats_143 : decode cX5_floats 143 = .ok (.lstore_n 3, 1) := by decide +kernel
theorem dX5_floats_144 : decode cX5_floats 144 = .ok (.iinc 7 1, 3) := by decide +kernel
theorem dX5_floats_147 : decode cX5_floats 147 = .ok (.goto (-139), 3) := by decide +kernel
theorem dX5_floats_150 : decode cX5_floats 150 = .ok (.lload 5, 2) := by decide +kernel
theorem dX5_floats_152 : decode cX5_floats 152 = .ok (.lreturn, 1) := by decide +kernel
theorem dX5_flowOf_0 : decode cX5_flowOf 0 = .ok (.aload_n 0, 1) := by decide +kernel
theorem dX5_flowOf_1 : decode cX5_flowOf 1 = .ok (.iload_n 1, 1) := by decide +kernel
theorem dX5_flowOf_2 : decode cX5_flowOf 2 = .ok (.iload_n 2, 1) := by decide +kernel
theorem dX5_flowOf_3 : decode cX5_flowOf 3 = .ok (.invokevirtual 147, 3) := by decide +kernel
theorem dX5_flowOf_6 : decode cX5_flowOf 6 = .ok (.aload_n 0, 1) := by decide +kernel
theorem dX5_flowOf_7 : decode cX5_flowOf 7 = .ok (.getfield 32, 3) := by decide +kernel
theorem dX5_flowOf_10 : decode cX5_flowOf 10 = .ok (.iload_n 1, 1) := by decide +kernel
theorem dX5_flowOf_11 : decode cX5_flowOf 11 = .ok (.iaload, 1) := by decide +kernel
theorem dX5_flowOf_12 : decode cX5_flowOf 12 = .ok (.i2l, 1) := by decide +kernel
theorem dX5_flowOf_13 : decode cX5_flowOf 13 = .ok (.aload_n 0, 1) := by decide +kernel
theorem dX5_flowOf_14 : decode cX5_flowOf 14 = .ok (.iload_n 1, 1) := by decide +kernel
theorem dX5_flowOf_15 : decode cX5_flowOf 15 = .ok (.iload_n 2, 1) := by decide +kernel
theorem dX5_flowOf_16 : decode cX5_flowOf 16 = .ok (.invokevirtual 138, 3) := by decide +kernel
theorem dX5_flowOf_19 : decode cX5_flowOf 19 = .ok (.i2l, 1) := by decide +kernel
theorem dX5_flowOf_20 : decode cX5_flowOf 20 = .ok (.lmul, 1) := by decide +kernel
theorem dX5_flowOf_21 : decode cX5_flowOf 21 = .ok (.lsub, 1) := by decide +kernel
theorem dX5_flowOf_22 : decode cX5_flowOf 22 = .ok (.lstore_n 3, 1) := by decide +kernel
theorem dX5_flowOf_23 : decode cX5_flowOf 23 = .ok (.aload_n 0, 1) := by decide +kernel
theorem dX5_flowOf_24 : decode cX5_flowOf 24 = .ok (.iload_n 1, 1) := by decide +kernel
theorem dX5_flowOf_25 : decode cX5_flowOf 25 = .ok (.iload_n 2, 1) := by decide +kernel
theorem dX5_flowOf_26 : decode cX5_flowOf 26 = .ok (.invokevirtual 151, 3) := by decide +kernel
theorem dX5_flowOf_29 : decode cX5_flowOf 29 = .ok (.i2l, 1) := by decide +kernel
theorem dX5_flowOf_30 : decode cX5_flowOf 30 = .ok (.aload_n 0, 1) := by decide +kernel
theorem dX5_flowOf_31 : decode cX5_flowOf 31 = .ok (.getfield 29, 3) := by decide +kernel
theorem dX5_flowOf_34 : decode cX5_flowOf 34 = .ok (.iload_n 1, 1) := by decide +kernel
theorem dX5_flowOf_35 : decode cX5_flowOf 35 = .ok (.baload, 1) := by decide +kernel
theorem dX5_flowOf_36 : decode cX5_flowOf 36 = .ok (.ifCond .eq 7, 3) := by decide +kernel
theorem dX5_flowOf_39 : decode cX5_flowOf 39 = .ok (.lload_n 3, 1) := by decide +kernel
theorem dX5_flowOf_40 : decode cX5_flowOf 40 = .ok (.goto 5, 3) := by decide +kernel
theorem dX5_flowOf_43 : decode cX5_flowOf 43 = .ok (.lload_n 3, 1) := by decide +kernel
theorem dX5_flowOf_44 : decode cX5_flowOf 44 = .ok (.lneg, 1) := by decide +kernel
theorem dX5_flowOf_45 : decode cX5_flowOf 45 = .ok (.lmul, 1) := by decide +kernel
theorem dX5_flowOf_46 : decode cX5_flowOf 46 = .ok (.lreturn, 1) := by decide +kernel
theorem dX5_start_0 : decode cX5_start 0 = .ok (.aload_n 0, 1) := by decide +kernel
theorem dX5_start_1 : decode cX5_start 1 = .ok (.iload_n 1, 1) := by decide +kernel
theorem dX5_start_2 : decode cX5_start 2 = .ok (.iload_n 2, 1) := by decide +kernel
theorem dX5_start_3 : decode cX5_start 3 = .ok (.invokevirtual 154, 3) := by decide +kernel
theorem dX5_start_6 : decode cX5_start 6 = .ok (.ifCond .eq 12, 3) := by decide +kernel
theorem dX5_start_9 : decode cX5_start 9 = .ok (.aload_n 0, 1) := by decide +kernel
theorem dX5_start_10 : decode cX5_start 10 = .ok (.iload_n 1, 1) := by decide +kernel
theorem dX5_start_11 : decode cX5_start 11 = .ok (.iload_n 2, 1) := by decide +kernel
theorem dX5_start_12 : decode cX5_start 12 = .ok (.invokevirtual 128, 3) := by decide +kernel
theorem dX5_start_15 : decode cX5_start 15 = .ok (.goto 4, 3) := by decide +kernel
theorem dX5_start_18 : decode cX5_start 18 = .ok (.iconst 0, 1) := by decide +kernel
theorem dX5_start_19 : decode cX5_start 19 = .ok (.ireturn, 1) := by decide +kernel
theorem dX5_end_0 : decode cX5_end 0 = .ok (.aload_n 0, 1) := by decide +kernel
theorem dX5_end_1 : decode cX5_end 1 = .ok (.iload_n 1, 1) := by decide +kernel
theorem dX5_end_2 : decode cX5_end 2 = .ok (.iload_n 2, 1) := by decide +kernel
theorem dX5_end_3 : decode cX5_end 3 = .ok (.invokevirtual 154, 3) := by decide +kernel
theorem dX5_end_6 : decode cX5_end 6 = .ok (.ifCond .eq 14, 3) := by decide +kernel
theorem dX5_end_9 : decode cX5_end 9 = .ok (.aload_n 0, 1) := by decide +kernel
theorem dX5_end_10 : decode cX5_end 10 = .ok (.iload_n 1, 1) := by decide +kernel
theorem dX5_end_11 : decode cX5_end 11 = .ok (.iload_n 2, 1) := by decide +kernel
theorem dX5_end_12 : decode cX5_end 12 = .ok (.iconst 1, 1) := by decide +kernel
theorem dX5_end_13 : decode cX5_end 13 = .ok (.iadd, 1) := by decide +kernel
theorem dX5_end_14 : decode cX5_end 14 = .ok (.invokevirtual 128, 3) := by decide +kernel
theorem dX5_end_17 : decode cX5_end 17 = .ok (.goto 4, 3) := by decide +kernel
theorem dX5_end_20 : decode cX5_end 20 = .ok (.iconst 0, 1) := by decide +kernel
theorem dX5_end_21 : decode cX5_end 21 = .ok (.ireturn, 1) := by decide +kernel
theorem dX5_lots_0 : decode cX5_lots 0 = .ok (.aload_n 0, 1) := by decide +kernel
theorem dX5_lots_1 : decode cX5_lots 1 = .ok (.iload_n 1, 1) := by decide +kernel
theorem dX5_lots_2 : decode cX5_lots 2 = .ok (.iload_n 2, 1) := by decide +kernel
theorem dX5_lots_3 : decode cX5_lots 3 = .ok (.invokevirtual 154, 3) := by decide +kernel
theorem dX5_lots_6 : decode cX5_lots 6 = .ok (.ifCond .eq 12, 3) := by decide +kernel
theorem dX5_lots_9 : decode cX5_lots 9 = .ok (.aload_n 0, 1) := by decide +kernel
theorem dX5_lots_10 : decode cX5_lots 10 = .ok (.iload_n 1, 1) := by decide +kernel
theorem dX5_lots_11 : decode cX5_lots 11 = .ok (.iload_n 2, 1) := by decide +kernel
theorem dX5_lots_12 : decode cX5_lots 12 = .ok (.invokevirtual 151, 3) := by decide +kernel
theorem dX5_lots_15 : decode cX5_lots 15 = .ok (.goto 4, 3) := by decide +kernel
theorem dX5_lots_18 : decode cX5_lots 18 = .ok (.iconst 0, 1) := by decide +kernel
theorem dX5_lots_19 : decode cX5_lots 19 = .ok (.ireturn, 1) := by decide +kernel
theorem dX5_floating_0 : decode cX5_floating 0 = .ok (.aload_n 0, 1) := by decide +kernel
theorem dX5_floating_1 : decode cX5_floating 1 = .ok (.iload_n 1, 1) := by decide +kernel
theorem dX5_floating_2 : decode cX5_floating 2 = .ok (.iload_n 2, 1) := by decide +kernel
theorem dX5_floating_3 : decode cX5_floating 3 = .ok (.invokevirtual 154, 3) := by decide +kernel
theorem dX5_floating_6 : decode cX5_floating 6 = .ok (.ifCond .eq 12, 3) := by decide +kernel
theorem dX5_floating_9 : decode cX5_floating 9 = .ok (.aload_n 0, 1) := by decide +kernel
theorem dX5_floating_10 : decode cX5_floating 10 = .ok (.iload_n 1, 1) := by decide +kernel
theorem dX5_floating_11 : decode cX5_floating 11 = .ok (.iload_n 2, 1) := by decide +kernel
theorem dX5_floating_12 : decode cX5_floating 12 = .ok (.invokevirtual 147, 3) := by decide +kernel
theorem dX5_floating_15 : decode cX5_floating 15 = .ok (.goto 4, 3) := by decide +kernel
theorem dX5_floating_18 : decode cX5_floating 18 = .ok (.lconst 0, 1) := by decide +kernel
theorem dX5_floating_19 : decode cX5_floating 19 = .ok (.lreturn, 1) := by decide +kernel
theorem dX5_flow_0 : decode cX5_flow 0 = .ok (.aload_n 0, 1) := by decide +kernel
theorem dX5_flow_1 : decode cX5_flow 1 = .ok (.iload_n 1, 1) := by decide +kernel
theorem dX5_flow_2 : decode cX5_flow 2 = .ok (.iload_n 2, 1) := by decide +kernel
theorem dX5_flow_3 : decode cX5_flow 3 = .ok (.invokevirtual 154, 3) := by decide +kernel
theorem dX5_flow_6 : decode cX5_flow 6 = .ok (.ifCond .eq 12, 3) := by decide +kernel
theorem dX5_flow_9 : decode cX5_flow 9 = .ok (.aload_n 0, 1) := by decide +kernel
theorem dX5_flow_10 : decode cX5_flow 10 = .ok (.iload_n 1, 1) := by decide +kernel
theorem dX5_flow_11 : decode cX5_flow 11 = .ok (.iload_n 2, 1) := by decide +kernel
theorem dX5_flow_12 : decode cX5_flow 12 = .ok (.invokevirtual 157, 3) := by decide +kernel
theorem dX5_flow_15 : decode cX5_flow 15 = .ok (.goto 4, 3) := by decide +kernel
theorem dX5_flow_18 : decode cX5_flow 18 = .ok (.lconst 0, 1) := by decide +kernel
theorem dX5_flow_19 : decode cX5_flow 19 = .ok (.lreturn, 1) := by decide +kernel
theorem dX5_partyOn_0 : decode cX5_partyOn 0 = .ok (.aload_n 0, 1) := by decide +kernel
theorem dX5_partyOn_1 : decode cX5_partyOn 1 = .ok (.aload_n 0, 1) := by decide +kernel
theorem dX5_partyOn_2 : decode cX5_partyOn 2 = .ok (.iload_n 1, 1) := by decide +kernel
theorem dX5_partyOn_3 : decode cX5_partyOn 3 = .ok (.invokevirtual 82, 3) := by decide +kernel
theorem dX5_partyOn_6 : decode cX5_partyOn 6 = .ok (.ifCond .ne 7, 3) := by decide +kernel
theorem dX5_partyOn_9 : decode cX5_partyOn 9 = .ok (.iconst 1, 1) := by decide +kernel
theorem dX5_partyOn_10 : decode cX5_partyOn 10 = .ok (.goto 15, 3) := by decide +kernel
theorem dX5_partyOn_13 : decode cX5_partyOn 13 = .ok (.iload_n 2, 1) := by decide +kernel
theorem dX5_partyOn_14 : decode cX5_partyOn 14 = .ok (.invokestatic 89, 3) := by decide +kernel
theorem dX5_partyOn_17 : decode cX5_partyOn 17 = .ok (.ifCond .eq 7, 3) := by decide +kernel
theorem dX5_partyOn_20 : decode cX5_partyOn 20 = .ok (.iconst 0, 1) := by decide +kernel
theorem dX5_partyOn_21 : decode cX5_partyOn 21 = .ok (.goto 4, 3) := by decide +kernel
theorem dX5_partyOn_24 : decode cX5_partyOn 24 = .ok (.iconst 2, 1) := by decide +kernel
theorem dX5_partyOn_25 : decode cX5_partyOn 25 = .ok (.putfield 71, 3) := by decide +kernel
theorem dX5_partyOn_28 : decode cX5_partyOn 28 = .ok (.aload_n 0, 1) := by decide +kernel
theorem dX5_partyOn_29 : decode cX5_partyOn 29 = .ok (.getfield 71, 3) := by decide +kernel
theorem dX5_partyOn_32 : decode cX5_partyOn 32 = .ok (.ifCond .le 7, 3) := by decide +kernel
theorem dX5_partyOn_35 : decode cX5_partyOn 35 = .ok (.iconst 0, 1) := by decide +kernel
theorem dX5_partyOn_36 : decode cX5_partyOn 36 = .ok (.goto 9, 3) := by decide +kernel
theorem dX5_partyOn_39 : decode cX5_partyOn 39 = .ok (.aload_n 0, 1) := by decide +kernel
theorem dX5_partyOn_40 : decode cX5_partyOn 40 = .ok (.iload_n 1, 1) := by decide +kernel
theorem dX5_partyOn_41 : decode cX5_partyOn 41 = .ok (.iload_n 2, 1) := by decide +kernel
theorem dX5_partyOn_42 : decode cX5_partyOn 42 = .ok (.invokevirtual 125, 3) := by decide +kernel
theorem dX5_partyOn_45 : decode cX5_partyOn 45 = .ok (.ireturn, 1) := by decide +kernel
theorem dX5_sum_0 : decode cX5_sum 0 = .ok (.lconst 0, 1) := by decide +kernel
theorem dX5_sum_1 : decode cX5_sum 1 = .ok (.lstore 4, 2) := by decide +kernel
theorem dX5_sum_3 : decode cX5_sum 3 = .ok (.iconst 0, 1) := by decide +kernel
theorem dX5_sum_4 : decode cX5_sum 4 = .ok (.istore 6, 2) := by decide +kernel
theorem dX5_sum_6 : decode cX5_sum 6 = .ok (.iload 6, 2) := by decide +kernel
theorem dX5_sum_8 : decode cX5_sum 8 = .ok (.aload_n 0, 1) := by decide +kernel
theorem dX5_sum_9 : decode cX5_sum 9 = .ok (.getfield 79, 3) := by decide +kernel
theorem dX5_sum_12 : decode cX5_sum 12 = .ok (.if_icmp .ge 81, 3) := by decide +kernel
theorem dX5_sum_15 : decode cX5_sum 15 = .ok (.iconst 0, 1) := by decide +kernel
theorem dX5_sum_16 : decode cX5_sum 16 = .ok (.istore 7, 2) := by decide +kernel
theorem dX5_sum_18 : decode cX5_sum 18 = .ok (.iload 7, 2) := by decide +kernel
theorem dX5_sum_20 : decode cX5_sum 20 = .ok (.aload_n 0, 1) := by decide +kernel
theorem dX5_sum_21 : decode cX5_sum 21 = .ok (.getfield 41, 3) := by decide +kernel
theorem dX5_sum_24 : decode cX5_sum 24 = .ok (.iload 6, 2) := by decide +kernel
theorem dX5_sum_26 : decode cX5_sum 26 = .ok (.iaload, 1) := by decide +kernel
theorem dX5_sum_27 : decode cX5_sum 27 = .ok (.if_icmp .ge 60, 3) := by decide +kernel
theorem dX5_sum_30 : decode cX5_sum 30 = .ok (.aload_n 0, 1) := by decide +kernel
theorem dX5_sum_31 : decode cX5_sum 31 = .ok (.iload 6, 2) := by decide +kernel
theorem dX5_sum_33 : decode cX5_sum 33 = .ok (.iload 7, 2) := by decide +kernel
theorem dX5_sum_35 : decode cX5_sum 35 = .ok (.iconst 1, 1) := by decide +kernel
theorem dX5_sum_36 : decode cX5_sum 36 = .ok (.iadd, 1) := by decide +kernel
theorem dX5_sum_37 : decode cX5_sum 37 = .ok (.invokevirtual 128, 3) := by decide +kernel
theorem dX5_sum_40 : decode cX5_sum 40 = .ok (.istore 8, 2) := by decide +kernel
theorem dX5_sum_42 : decode cX5_sum 42 = .ok (.lload 4, 2) := by decide +kernel
theorem dX5_sum_44 : decode cX5_sum 44 = .ok (.iload 8, 2) := by decide +kernel
theorem dX5_sum_46 : decode cX5_sum 46 = .ok (.iload_n 2, 1) := by decide +kernel
theorem dX5_sum_47 : decode cX5_sum 47 = .ok (.iload_n 3, 1) := by decide +kernel
theorem dX5_sum_48 : decode cX5_sum 48 = .ok (.invokestatic 75, 3) := by decide +kernel
theorem dX5_sum_51 : decode cX5_sum 51 = .ok (.ifCond .eq 26, 3) := by decide +kernel
theorem dX5_sum_54 : decode cX5_sum 54 = .ok (.aload_n 0, 1) := by decide +kernel
theorem dX5_sum_55 : decode cX5_sum 55 = .ok (.iload 6, 2) := by decide +kernel
theorem dX5_sum_57 : decode cX5_sum 57 = .ok (.iload 8, 2) := by decide +kernel
theorem dX5_sum_59 : decode cX5_sum 59 = .ok (.invokevirtual 125, 3) := by decide +kernel
theorem dX5_sum_62 : decode cX5_sum 62 = .ok (.iload_n 1, 1) := by decide +kernel
theorem dX5_sum_63 : decode cX5_sum 63 = .ok (.if_icmp .ne 14, 3) := by decide +kernel
theorem dX5_sum_66 : decode cX5_sum 66 = .ok (.aload_n 0, 1) := by decide +kernel
theorem dX5_sum_67 : decode cX5_sum 67 = .ok (.iload 6, 2) := by decide +kernel
theorem dX5_sum_69 : decode cX5_sum 69 = .ok (.iload 7, 2) := by decide +kernel
theorem dX5_sum_71 : decode cX5_sum 71 = .ok (.invokevirtual 157, 3) := by decide +kernel
theorem dX5_sum_74 : decode cX5_sum 74 = .ok (.goto 4, 3) := by decide +kernel
theorem dX5_sum_77 : decode cX5_sum 77 = .ok (.lconst 0, 1) := by decide +kernel
theorem dX5_sum_78 : decode cX5_sum 78 = .ok (.ladd, 1) := by decide +kernel
theorem dX5_sum_79 : decode cX5_sum 79 = .ok (.lstore 4, 2) := by decide +kernel
theorem dX5_sum_81 : decode cX5_sum 81 = .ok (.iinc 7 1, 3) := by decide +kernel
theorem dX5_sum_84 : decode cX5_sum 84 = .ok (.goto (-66), 3) := by decide +kernel
theorem dX5_sum_87 : decode cX5_sum 87 = .ok (.iinc 6 1, 3) := by decide +kernel
theorem dX5_sum_90 : decode cX5_sum 90 = .ok (.goto (-84), 3) := by decide +kernel
theorem dX5_sum_93 : decode cX5_sum 93 = .ok (.lload 4, 2) := by decide +kernel
theorem dX5_sum_95 : decode cX5_sum 95 = .ok (.lreturn, 1) := by decide +kernel
theorem dX5_cash_0 : decode cX5_cash 0 = .ok (.aload_n 0, 1) := by decide +kernel
theorem dX5_cash_1 : decode cX5_cash 1 = .ok (.iload_n 1, 1) := by decide +kernel
theorem dX5_cash_2 : decode cX5_cash 2 = .ok (.invokestatic 105, 3) := by decide +kernel
theorem dX5_cash_5 : decode cX5_cash 5 = .ok (.ifCond .ne 7, 3) := by decide +kernel
theorem dX5_cash_8 : decode cX5_cash 8 = .ok (.iconst 1, 1) := by decide +kernel
theorem dX5_cash_9 : decode cX5_cash 9 = .ok (.goto 19, 3) := by decide +kernel
theorem dX5_cash_12 : decode cX5_cash 12 = .ok (.iload_n 2, 1) := by decide +kernel
theorem dX5_cash_13 : decode cX5_cash 13 = .ok (.iconst 0, 1) := by decide +kernel
theorem dX5_cash_14 : decode cX5_cash 14 = .ok (.sipush 3100, 3) := by decide +kernel
theorem dX5_cash_17 : decode cX5_cash 17 = .ok (.invokestatic 75, 3) := by decide +kernel
theorem dX5_cash_20 : decode cX5_cash 20 = .ok (.ifCond .eq 7, 3) := by decide +kernel
theorem dX5_cash_23 : decode cX5_cash 23 = .ok (.iconst 0, 1) := by decide +kernel
theorem dX5_cash_24 : decode cX5_cash 24 = .ok (.goto 4, 3) := by decide +kernel
theorem dX5_cash_27 : decode cX5_cash 27 = .ok (.iconst 2, 1) := by decide +kernel
theorem dX5_cash_28 : decode cX5_cash 28 = .ok (.putfield 71, 3) := by decide +kernel
theorem dX5_cash_31 : decode cX5_cash 31 = .ok (.aload_n 0, 1) := by decide +kernel
theorem dX5_cash_32 : decode cX5_cash 32 = .ok (.getfield 71, 3) := by decide +kernel
theorem dX5_cash_35 : decode cX5_cash 35 = .ok (.ifCond .le 7, 3) := by decide +kernel
theorem dX5_cash_38 : decode cX5_cash 38 = .ok (.lconst 0, 1) := by decide +kernel
theorem dX5_cash_39 : decode cX5_cash 39 = .ok (.goto 10, 3) := by decide +kernel
theorem dX5_cash_42 : decode cX5_cash 42 = .ok (.aload_n 0, 1) := by decide +kernel
theorem dX5_cash_43 : decode cX5_cash 43 = .ok (.iload_n 1, 1) := by decide +kernel
theorem dX5_cash_44 : decode cX5_cash 44 = .ok (.iload_n 2, 1) := by decide +kernel
theorem dX5_cash_45 : decode cX5_cash 45 = .ok (.iload_n 2, 1) := by decide +kernel
theorem dX5_cash_46 : decode cX5_cash 46 = .ok (.invokevirtual 160, 3) := by decide +kernel
theorem dX5_cash_49 : decode cX5_cash 49 = .ok (.lreturn, 1) := by decide +kernel
theorem dX5_barsDays_0 : decode cX5_barsDays 0 = .ok (.iload_n 2, 1) := by decide +kernel
theorem dX5_barsDays_1 : decode cX5_barsDays 1 = .ok (.iconst 0, 1) := by decide +kernel
theorem dX5_barsDays_2 : decode cX5_barsDays 2 = .ok (.sipush 3100, 3) := by decide +kernel
theorem dX5_barsDays_5 : decode cX5_barsDays 5 = .ok (.invokestatic 75, 3) := by decide +kernel
theorem dX5_barsDays_8 : decode cX5_barsDays 8 = .ok (.ifCond .eq 28, 3) := by decide +kernel
theorem dX5_barsDays_11 : decode cX5_barsDays 11 = .ok (.iload_n 3, 1) := by decide +kernel
theorem dX5_barsDays_12 : decode cX5_barsDays 12 = .ok (.iload_n 2, 1) := by decide +kernel
theorem dX5_barsDays_13 : decode cX5_barsDays 13 = .ok (.if_icmp .lt 23, 3) := by decide +kernel
theorem dX5_barsDays_16 : decode cX5_barsDays 16 = .ok (.iload_n 3, 1) := by decide +kernel
theorem dX5_barsDays_17 : decode cX5_barsDays 17 = .ok (.sipush 3100, 3) := by decide +kernel
theorem dX5_barsDays_20 : decode cX5_barsDays 20 = .ok (.if_icmp .gt 16, 3) := by decide +kernel
theorem dX5_barsDays_23 : decode cX5_barsDays 23 = .ok (.iload_n 3, 1) := by decide +kernel
theorem dX5_barsDays_24 : decode cX5_barsDays 24 = .ok (.iload_n 2, 1) := by decide +kernel
theorem dX5_barsDays_25 : decode cX5_barsDays 25 = .ok (.isub, 1) := by decide +kernel
theorem dX5_barsDays_26 : decode cX5_barsDays 26 = .ok (.sipush 400, 3) := by decide +kernel
theorem dX5_barsDays_29 : decode cX5_barsDays 29 = .ok (.if_icmp .gt 7, 3) := by decide +kernel
theorem dX5_barsDays_32 : decode cX5_barsDays 32 = .ok (.iconst 1, 1) := by decide +kernel
theorem dX5_barsDays_33 : decode cX5_barsDays 33 = .ok (.goto 4, 3) := by decide +kernel
theorem dX5_barsDays_36 : decode cX5_barsDays 36 = .ok (.iconst 0, 1) := by decide +kernel
theorem dX5_barsDays_37 : decode cX5_barsDays 37 = .ok (.istore 4, 2) := by decide +kernel
theorem dX5_barsDays_39 : decode cX5_barsDays 39 = .ok (.iload_n 1, 1) := by decide +kernel
theorem dX5_barsDays_40 : decode cX5_barsDays 40 = .ok (.invokestatic 105, 3) := by decide +kernel
theorem dX5_barsDays_43 : decode cX5_barsDays 43 = .ok (.ifCond .ne 7, 3) := by decide +kernel
theorem dX5_barsDays_46 : decode cX5_barsDays 46 = .ok (.iconst 1, 1) := by decide +kernel
theorem dX5_barsDays_47 : decode cX5_barsDays 47 = .ok (.goto 13, 3) := by decide +kernel
theorem dX5_barsDays_50 : decode cX5_barsDays 50 = .ok (.iload 4, 2) := by decide +kernel
theorem dX5_barsDays_52 : decode cX5_barsDays 52 = .ok (.ifCond .eq 7, 3) := by decide +kernel
theorem dX5_barsDays_55 : decode cX5_barsDays 55 = .ok (.iconst 0, 1) := by decide +kernel
theorem dX5_barsDays_56 : decode cX5_barsDays 56 = .ok (.goto 4, 3) := by decide +kernel
theorem dX5_barsDays_59 : decode cX5_barsDays 59 = .ok (.iconst 2, 1) := by decide +kernel
theorem dX5_barsDays_60 : decode cX5_barsDays 60 = .ok (.ireturn, 1) := by decide +kernel
theorem dX5_cashOfDays_0 : decode cX5_cashOfDays 0 = .ok (.aload_n 0, 1) := by decide +kernel
theorem dX5_cashOfDays_1 : decode cX5_cashOfDays 1 = .ok (.aload_n 0, 1) := by decide +kernel
theorem dX5_cashOfDays_2 : decode cX5_cashOfDays 2 = .ok (.iload_n 1, 1) := by decide +kernel
theorem dX5_cashOfDays_3 : decode cX5_cashOfDays 3 = .ok (.iload_n 2, 1) := by decide +kernel
theorem dX5_cashOfDays_4 : decode cX5_cashOfDays 4 = .ok (.iload_n 3, 1) := by decide +kernel
theorem dX5_cashOfDays_5 : decode cX5_cashOfDays 5 = .ok (.invokevirtual 164, 3) := by decide +kernel
theorem dX5_cashOfDays_8 : decode cX5_cashOfDays 8 = .ok (.putfield 71, 3) := by decide +kernel
theorem dX5_cashOfDays_11 : decode cX5_cashOfDays 11 = .ok (.aload_n 0, 1) := by decide +kernel
theorem dX5_cashOfDays_12 : decode cX5_cashOfDays 12 = .ok (.getfield 71, 3) := by decide +kernel
theorem dX5_cashOfDays_15 : decode cX5_cashOfDays 15 = .ok (.ifCond .le 7, 3) := by decide +kernel
theorem dX5_cashOfDays_18 : decode cX5_cashOfDays 18 = .ok (.lconst 0, 1) := by decide +kernel
theorem dX5_cashOfDays_19 : decode cX5_cashOfDays 19 = .ok (.goto 10, 3) := by decide +kernel
theorem dX5_cashOfDays_22 : decode cX5_cashOfDays 22 = .ok (.aload_n 0, 1) := by decide +kernel
theorem dX5_cashOfDays_23 : decode cX5_cashOfDays 23 = .ok (.iload_n 1, 1) := by decide +kernel
theorem dX5_cashOfDays_24 : decode cX5_cashOfDays 24 = .ok (.iload_n 2, 1) := by decide +kernel
theorem dX5_cashOfDays_25 : decode cX5_cashOfDays 25 = .ok (.iload_n 3, 1) := by decide +kernel
theorem dX5_cashOfDays_26 : decode cX5_cashOfDays 26 = .ok (.invokevirtual 160, 3) := by decide +kernel
theorem dX5_cashOfDays_29 : decode cX5_cashOfDays 29 = .ok (.lreturn, 1) := by decide +kernel
theorem dX5_cashByTrades_0 : decode cX5_cashByTrades 0 = .ok (.aload_n 0, 1) := by decide +kernel
theorem dX5_cashByTrades_1 : decode cX5_cashByTrades 1 = .ok (.aload_n 0, 1) := by decide +kernel
theorem dX5_cashByTrades_2 : decode cX5_cashByTrades 2 = .ok (.iload_n 1, 1) := by decide +kernel
theorem dX5_cashByTrades_3 : decode cX5_cashByTrades 3 = .ok (.iload_n 2, 1) := by decide +kernel
theorem dX5_cashByTrades_4 : decode cX5_cashByTrades 4 = .ok (.iload_n 3, 1) := by decide +kernel
theorem dX5_cashByTrades_5 : decode cX5_cashByTrades 5 = .ok (.invokevirtual 164, 3) := by decide +kernel
theorem dX5_cashByTrades_8 : decode cX5_cashByTrades 8 = .ok (.putfield 71, 3) := by decide +kernel
theorem dX5_cashByTrades_11 : decode cX5_cashByTrades 11 = .ok (.aload_n 0, 1) := by decide +kernel
theorem dX5_cashByTrades_12 : decode cX5_cashByTrades 12 = .ok (.getfield 71, 3) := by decide +kernel
theorem dX5_cashByTrades_15 : decode cX5_cashByTrades 15 = .ok (.ifCond .le 7, 3) := by decide +kernel
theorem dX5_cashByTrades_18 : decode cX5_cashByTrades 18 = .ok (.lconst 0, 1) := by decide +kernel
theorem dX5_cashByTrades_19 : decode cX5_cashByTrades 19 = .ok (.goto 10, 3) := by decide +kernel
theorem dX5_cashByTrades_22 : decode cX5_cashByTrades 22 = .ok (.aload_n 0, 1) := by decide +kernel
theorem dX5_cashByTrades_23 : decode cX5_cashByTrades 23 = .ok (.iload_n 1, 1) := by decide +kernel
theorem dX5_cashByTrades_24 : decode cX5_cashByTrades 24 = .ok (.iload_n 2, 1) := by decide +kernel
theorem dX5_cashByTrades_25 : decode cX5_cashByTrades 25 = .ok (.iload_n 3, 1) := by decide +kernel
theorem dX5_cashByTrades_26 : decode cX5_cashByTrades 26 = .ok (.invokevirtual 160, 3) := by decide +kernel
theorem dX5_cashByTrades_29 : decode cX5_cashByTrades 29 = .ok (.lreturn, 1) := by decide +kernel
theorem dX5_nextFlow_0 : decode cX5_nextFlow 0 = .ok (.aload_n 0, 1) := by decide +kernel
theorem dX5_nextFlow_1 : decode cX5_nextFlow 1 = .ok (.iload_n 1, 1) := by decide +kernel
theorem dX5_nextFlow_2 : decode cX5_nextFlow 2 = .ok (.invokestatic 105, 3) := by decide +kernel
theorem dX5_nextFlow_5 : decode cX5_nextFlow 5 = .ok (.ifCond .ne 7, 3) := by decide +kernel
theorem dX5_nextFlow_8 : decode cX5_nextFlow 8 = .ok (.iconst 1, 1) := by decide +kernel
theorem dX5_nextFlow_9 : decode cX5_nextFlow 9 = .ok (.goto 19, 3) := by decide +kernel
theorem dX5_nextFlow_12 : decode cX5_nextFlow 12 = .ok (.iload_n 2, 1) := by decide +kernel
theorem dX5_nextFlow_13 : decode cX5_nextFlow 13 = .ok (.iconst 0, 1) := by decide +kernel
theorem dX5_nextFlow_14 : decode cX5_nextFlow 14 = .ok (.sipush 3100, 3) := by decide +kernel
theorem dX5_nextFlow_17 : decode cX5_nextFlow 17 = .ok (.invokestatic 75, 3) := by decide +kernel
theorem dX5_nextFlow_20 : decode cX5_nextFlow 20 = .ok (.ifCond .eq 7, 3) := by decide +kernel
theorem dX5_nextFlow_23 : decode cX5_nextFlow 23 = .ok (.iconst 0, 1) := by decide +kernel
theorem dX5_nextFlow_24 : decode cX5_nextFlow 24 = .ok (.goto 4, 3) := by decide +kernel
theorem dX5_nextFlow_27 : decode cX5_nextFlow 27 = .ok (.iconst 2, 1) := by decide +kernel
theorem dX5_nextFlow_28 : decode cX5_nextFlow 28 = .ok (.putfield 71, 3) := by decide +kernel
theorem dX5_nextFlow_31 : decode cX5_nextFlow 31 = .ok (.iconst (-1), 1) := by decide +kernel
theorem dX5_nextFlow_32 : decode cX5_nextFlow 32 = .ok (.istore_n 3, 1) := by decide +kernel
theorem dX5_nextFlow_33 : decode cX5_nextFlow 33 = .ok (.iconst 0, 1) := by decide +kernel
theorem dX5_nextFlow_34 : decode cX5_nextFlow 34 = .ok (.istore 4, 2) := by decide +kernel
theorem dX5_nextFlow_36 : decode cX5_nextFlow 36 = .ok (.iload 4, 2) := by decide +kernel
theorem dX5_nextFlow_38 : decode cX5_nextFlow 38 = .ok (.aload_n 0, 1) := by decide +kernel
theorem dX5_nextFlow_39 : decode cX5_nextFlow 39 = .ok (.getfield 79, 3) := by decide +kernel
theorem dX5_nextFlow_42 : decode cX5_nextFlow 42 = .ok (.if_icmp .ge 85, 3) := by decide +kernel
theorem dX5_nextFlow_45 : decode cX5_nextFlow 45 = .ok (.aload_n 0, 1) := by decide +kernel
theorem dX5_nextFlow_46 : decode cX5_nextFlow 46 = .ok (.getfield 71, 3) := by decide +kernel
theorem dX5_nextFlow_49 : decode cX5_nextFlow 49 = .ok (.ifCond .ne 78, 3) := by decide +kernel
theorem dX5_nextFlow_52 : decode cX5_nextFlow 52 = .ok (.iconst 0, 1) := by decide +kernel
theorem dX5_nextFlow_53 : decode cX5_nextFlow 53 = .ok (.istore 5, 2) := by decide +kernel
theorem dX5_nextFlow_55 : decode cX5_nextFlow 55 = .ok (.iload 5, 2) := by decide +kernel
theorem dX5_nextFlow_57 : decode cX5_nextFlow 57 = .ok (.aload_n 0, 1) := by decide +kernel
theorem dX5_nextFlow_58 : decode cX5_nextFlow 58 = .ok (.getfield 41, 3) := by decide +kernel
theorem dX5_nextFlow_61 : decode cX5_nextFlow 61 = .ok (.iload 4, 2) := by decide +kernel
theorem dX5_nextFlow_63 : decode cX5_nextFlow 63 = .ok (.iaload, 1) := by decide +kernel
theorem dX5_nextFlow_64 : decode cX5_nextFlow 64 = .ok (.if_icmp .ge 57, 3) := by decide +kernel
theorem dX5_nextFlow_67 : decode cX5_nextFlow 67 = .ok (.aload_n 0, 1) := by decide +kernel
theorem dX5_nextFlow_68 : decode cX5_nextFlow 68 = .ok (.iload 4, 2) := by decide +kernel
theorem dX5_nextFlow_70 : decode cX5_nextFlow 70 = .ok (.iload 5, 2) := by decide +kernel
theorem dX5_nextFlow_72 : decode cX5_nextFlow 72 = .ok (.iconst 1, 1) := by decide +kernel
theorem dX5_nextFlow_73 : decode cX5_nextFlow 73 = .ok (.iadd, 1) := by decide +kernel
theorem dX5_nextFlow_74 : decode cX5_nextFlow 74 = .ok (.invokevirtual 128, 3) := by decide +kernel
theorem dX5_nextFlow_77 : decode cX5_nextFlow 77 = .ok (.istore 6, 2) := by decide +kernel
theorem dX5_nextFlow_79 : decode cX5_nextFlow 79 = .ok (.iload 6, 2) := by decide +kernel
theorem dX5_nextFlow_81 : decode cX5_nextFlow 81 = .ok (.iload_n 2, 1) := by decide +kernel
theorem dX5_nextFlow_82 : decode cX5_nextFlow 82 = .ok (.if_icmp .lt 31, 3) := by decide +kernel
theorem dX5_nextFlow_85 : decode cX5_nextFlow 85 = .ok (.iload_n 3, 1) := by decide +kernel
theorem dX5_nextFlow_86 : decode cX5_nextFlow 86 = .ok (.iconst (-1), 1) := by decide +kernel
theorem dX5_nextFlow_87 : decode cX5_nextFlow 87 = .ok (.if_icmp .eq 9, 3) := by decide +kernel
theorem dX5_nextFlow_90 : decode cX5_nextFlow 90 = .ok (.iload 6, 2) := by decide +kernel
theorem dX5_nextFlow_92 : decode cX5_nextFlow 92 = .ok (.iload_n 3, 1) := by decide +kernel
theorem dX5_nextFlow_93 : decode cX5_nextFlow 93 = .ok (.if_icmp .ge 20, 3) := by decide +kernel
theorem dX5_nextFlow_96 : decode cX5_nextFlow 96 = .ok (.aload_n 0, 1) := by decide +kernel
theorem dX5_nextFlow_97 : decode cX5_nextFlow 97 = .ok (.iload 4, 2) := by decide +kernel
theorem dX5_nextFlow_99 : decode cX5_nextFlow 99 = .ok (.iload 6, 2) := by decide +kernel
theorem dX5_nextFlow_101 : decode cX5_nextFlow 101 = .ok (.invokevirtual 125, 3) := by decide +kernel
theorem dX5_nextFlow_104 : decode cX5_nextFlow 104 = .ok (.iload_n 1, 1) := by decide +kernel
theorem dX5_nextFlow_105 : decode cX5_nextFlow 105 = .ok (.if_icmp .ne 8, 3) := by decide +kernel
theorem dX5_nextFlow_108 : decode cX5_nextFlow 108 = .ok (.iload 6, 2) := by decide +kernel
theorem dX5_nextFlow_110 : decode cX5_nextFlow 110 = .ok (.goto 4, 3) := by decide +kernel
theorem dX5_nextFlow_113 : decode cX5_nextFlow 113 = .ok (.iload_n 3, 1) := by decide +kernel
theorem dX5_nextFlow_114 : decode cX5_nextFlow 114 = .ok (.istore_n 3, 1) := by decide +kernel
theorem dX5_nextFlow_115 : decode cX5_nextFlow 115 = .ok (.iinc 5 1, 3) := by decide +kernel
theorem dX5_nextFlow_118 : decode cX5_nextFlow 118 = .ok (.goto (-63), 3) := by decide +kernel
theorem dX5_nextFlow_121 : decode cX5_nextFlow 121 = .ok (.iinc 4 1, 3) := by decide +kernel
theorem dX5_nextFlow_124 : decode cX5_nextFlow 124 = .ok (.goto (-88), 3) := by decide +kernel
theorem dX5_nextFlow_127 : decode cX5_nextFlow 127 = .ok (.aload_n 0, 1) := by decide +kernel
theorem dX5_nextFlow_128 : decode cX5_nextFlow 128 = .ok (.getfield 71, 3) := by decide +kernel
theorem dX5_nextFlow_131 : decode cX5_nextFlow 131 = .ok (.ifCond .le 7, 3) := by decide +kernel
theorem dX5_nextFlow_134 : decode cX5_nextFlow 134 = .ok (.iconst 0, 1) := by decide +kernel
theorem dX5_nextFlow_135 : decode cX5_nextFlow 135 = .ok (.goto 4, 3) := by decide +kernel
theorem dX5_nextFlow_138 : decode cX5_nextFlow 138 = .ok (.iload_n 3, 1) := by decide +kernel
theorem dX5_nextFlow_139 : decode cX5_nextFlow 139 = .ok (.ireturn, 1) := by decide +kernel
theorem dL_holiday_0 : decode cL_holiday 0 = .ok (.aload_n 3, 1) := by decide +kernel
theorem dL_holiday_1 : decode cL_holiday 1 = .ok (.iconst 0, 1) := by decide +kernel
theorem dL_holiday_2 : decode cL_holiday 2 = .ok (.aload_n 0, 1) := by decide +kernel
theorem dL_holiday_3 : decode cL_holiday 3 = .ok (.iload_n 1, 1) := by decide +kernel
theorem dL_holiday_4 : decode cL_holiday 4 = .ok (.iload_n 2, 1) := by decide +kernel
theorem dL_holiday_5 : decode cL_holiday 5 = .ok (.invokevirtual 7, 3) := by decide +kernel
theorem dL_holiday_8 : decode cL_holiday 8 = .ok (.i2l, 1) := by decide +kernel
theorem dL_holiday_9 : decode cL_holiday 9 = .ok (.lastore, 1) := by decide +kernel
theorem dL_holiday_10 : decode cL_holiday 10 = .ok (.goto 15, 3) := by decide +kernel
theorem dL_holiday_13 : decode cL_holiday 13 = .ok (.astore 4, 2) := by decide +kernel
theorem dL_holiday_15 : decode cL_holiday 15 = .ok (.iconst 1, 1) := by decide +kernel
theorem dL_holiday_16 : decode cL_holiday 16 = .ok (.ireturn, 1) := by decide +kernel
theorem dL_holiday_17 : decode cL_holiday 17 = .ok (.astore 4, 2) := by decide +kernel
theorem dL_holiday_19 : decode cL_holiday 19 = .ok (.iconst 2, 1) := by decide +kernel
theorem dL_holiday_20 : decode cL_holiday 20 = .ok (.ireturn, 1) := by decide +kernel
theorem dL_holiday_21 : decode cL_holiday 21 = .ok (.astore 4, 2) := by decide +kernel
theorem dL_holiday_23 : decode cL_holiday 23 = .ok (.iconst 3, 1) := by decide +kernel
theorem dL_holiday_24 : decode cL_holiday 24 = .ok (.ireturn, 1) := by decide +kernel
theorem dL_holiday_25 : decode cL_holiday 25 = .ok (.iconst 0, 1) := by decide +kernel
theorem dL_holiday_26 : decode cL_holiday 26 = .ok (.ireturn, 1) := by decide +kernel
theorem dL_isOpen_0 : decode cL_isOpen 0 = .ok (.aload_n 2, 1) := by decide +kernel
theorem dL_isOpen_1 : decode cL_isOpen 1 = .ok (.iconst 0, 1) := by decide +kernel
theorem dL_isOpen_2 : decode cL_isOpen 2 = .ok (.aload_n 0, 1) := by decide +kernel
theorem dL_isOpen_3 : decode cL_isOpen 3 = .ok (.iload_n 1, 1) := by decide +kernel
theorem dL_isOpen_4 : decode cL_isOpen 4 = .ok (.invokevirtual 19, 3) := by decide +kernel
theorem dL_isOpen_7 : decode cL_isOpen 7 = .ok (.ifCond .eq 7, 3) := by decide +kernel
theorem dL_isOpen_10 : decode cL_isOpen 10 = .ok (.lconst 1, 1) := by decide +kernel
theorem dL_isOpen_11 : decode cL_isOpen 11 = .ok (.goto 4, 3) := by decide +kernel
theorem dL_isOpen_14 : decode cL_isOpen 14 = .ok (.lconst 0, 1) := by decide +kernel
theorem dL_isOpen_15 : decode cL_isOpen 15 = .ok (.lastore, 1) := by decide +kernel
theorem dL_isOpen_16 : decode cL_isOpen 16 = .ok (.goto 6, 3) := by decide +kernel
theorem dL_isOpen_19 : decode cL_isOpen 19 = .ok (.astore_n 3, 1) := by decide +kernel
theorem dL_isOpen_20 : decode cL_isOpen 20 = .ok (.iconst 1, 1) := by decide +kernel
theorem dL_isOpen_21 : decode cL_isOpen 21 = .ok (.ireturn, 1) := by decide +kernel
theorem dL_isOpen_22 : decode cL_isOpen 22 = .ok (.iconst 0, 1) := by decide +kernel
theorem dL_isOpen_23 : decode cL_isOpen 23 = .ok (.ireturn, 1) := by decide +kernel
theorem dL_roll_0 : decode cL_roll 0 = .ok (.aload_n 2, 1) := by decide +kernel
theorem dL_roll_1 : decode cL_roll 1 = .ok (.iconst 0, 1) := by decide +kernel
theorem dL_roll_2 : decode cL_roll 2 = .ok (.aload_n 0, 1) := by decide +kernel
theorem dL_roll_3 : decode cL_roll 3 = .ok (.iload_n 1, 1) := by decide +kernel
theorem dL_roll_4 : decode cL_roll 4 = .ok (.invokevirtual 23, 3) := by decide +kernel
theorem dL_roll_7 : decode cL_roll 7 = .ok (.i2l, 1) := by decide +kernel
theorem dL_roll_8 : decode cL_roll 8 = .ok (.lastore, 1) := by decide +kernel
theorem dL_roll_9 : decode cL_roll 9 = .ok (.goto 6, 3) := by decide +kernel
theorem dL_roll_12 : decode cL_roll 12 = .ok (.astore_n 3, 1) := by decide +kernel
theorem dL_roll_13 : decode cL_roll 13 = .ok (.iconst 1, 1) := by decide +kernel
theorem dL_roll_14 : decode cL_roll 14 = .ok (.ireturn, 1) := by decide +kernel
theorem dL_roll_15 : decode cL_roll 15 = .ok (.iconst 0, 1) := by decide +kernel
theorem dL_roll_16 : decode cL_roll 16 = .ok (.ireturn, 1) := by decide +kernel
theorem dL_fix_0 : decode cL_fix 0 = .ok (.aload_n 3, 1) := by decide +kernel
theorem dL_fix_1 : decode cL_fix 1 = .ok (.iconst 0, 1) := by decide +kernel
theorem dL_fix_2 : decode cL_fix 2 = .ok (.aload_n 0, 1) := by decide +kernel
theorem dL_fix_3 : decode cL_fix 3 = .ok (.iload_n 1, 1) := by decide +kernel
theorem dL_fix_4 : decode cL_fix 4 = .ok (.iload_n 2, 1) := by decide +kernel
theorem dL_fix_5 : decode cL_fix 5 = .ok (.invokevirtual 27, 3) := by decide +kernel
theorem dL_fix_8 : decode cL_fix 8 = .ok (.i2l, 1) := by decide +kernel
theorem dL_fix_9 : decode cL_fix 9 = .ok (.lastore, 1) := by decide +kernel
theorem dL_fix_10 : decode cL_fix 10 = .ok (.goto 11, 3) := by decide +kernel
theorem dL_fix_13 : decode cL_fix 13 = .ok (.astore 4, 2) := by decide +kernel
theorem dL_fix_15 : decode cL_fix 15 = .ok (.iconst 1, 1) := by decide +kernel
theorem dL_fix_16 : decode cL_fix 16 = .ok (.ireturn, 1) := by decide +kernel
theorem dL_fix_17 : decode cL_fix 17 = .ok (.astore 4, 2) := by decide +kernel
theorem dL_fix_19 : decode cL_fix 19 = .ok (.iconst 2, 1) := by decide +kernel
theorem dL_fix_20 : decode cL_fix 20 = .ok (.ireturn, 1) := by decide +kernel
theorem dL_fix_21 : decode cL_fix 21 = .ok (.iconst 0, 1) := by decide +kernel
theorem dL_fix_22 : decode cL_fix 22 = .ok (.ireturn, 1) := by decide +kernel
theorem dL_rateFor_0 : decode cL_rateFor 0 = .ok (.aload_n 2, 1) := by decide +kernel
theorem dL_rateFor_1 : decode cL_rateFor 1 = .ok (.iconst 0, 1) := by decide +kernel
theorem dL_rateFor_2 : decode cL_rateFor 2 = .ok (.aload_n 0, 1) := by decide +kernel
theorem dL_rateFor_3 : decode cL_rateFor 3 = .ok (.iload_n 1, 1) := by decide +kernel
theorem dL_rateFor_4 : decode cL_rateFor 4 = .ok (.invokevirtual 30, 3) := by decide +kernel
theorem dL_rateFor_7 : decode cL_rateFor 7 = .ok (.i2l, 1) := by decide +kernel
theorem dL_rateFor_8 : decode cL_rateFor 8 = .ok (.lastore, 1) := by decide +kernel
theorem dL_rateFor_9 : decode cL_rateFor 9 = .ok (.goto 6, 3) := by decide +kernel
theorem dL_rateFor_12 : decode cL_rateFor 12 = .ok (.astore_n 3, 1) := by decide +kernel
theorem dL_rateFor_13 : decode cL_rateFor 13 = .ok (.iconst 1, 1) := by decide +kernel
theorem dL_rateFor_14 : decode cL_rateFor 14 = .ok (.ireturn, 1) := by decide +kernel
theorem dL_rateFor_15 : decode cL_rateFor 15 = .ok (.iconst 0, 1) := by decide +kernel
theorem dL_rateFor_16 : decode cL_rateFor 16 = .ok (.ireturn, 1) := by decide +kernel
theorem dL_trade_0 : decode cL_trade 0 = .ok (.aload 8, 2) := by decide +kernel
theorem dL_trade_2 : decode cL_trade 2 = .ok (.iconst 0, 1) := by decide +kernel
theorem dL_trade_3 : decode cL_trade 3 = .ok (.aload_n 0, 1) := by decide +kernel
theorem dL_trade_4 : decode cL_trade 4 = .ok (.iload_n 1, 1) := by decide +kernel
theorem dL_trade_5 : decode cL_trade 5 = .ok (.iload_n 2, 1) := by decide +kernel
theorem dL_trade_6 : decode cL_trade 6 = .ok (.iload_n 3, 1) := by decide +kernel
theorem dL_trade_7 : decode cL_trade 7 = .ok (.iload 4, 2) := by decide +kernel
theorem dL_trade_9 : decode cL_trade 9 = .ok (.iload 5, 2) := by decide +kernel
theorem dL_trade_11 : decode cL_trade 11 = .ok (.iload 6, 2) := by decide +kernel
theorem dL_trade_13 : decode cL_trade 13 = .ok (.iload 7, 2) := by decide +kernel
theorem dL_trade_15 : decode cL_trade 15 = .ok (.invokevirtual 33, 3) := by decide +kernel
theorem dL_trade_18 : decode cL_trade 18 = .ok (.i2l, 1) := by decide +kernel
theorem dL_trade_19 : decode cL_trade 19 = .ok (.lastore, 1) := by decide +kernel
theorem dL_trade_20 : decode cL_trade 20 = .ok (.goto 15, 3) := by decide +kernel
theorem dL_trade_23 : decode cL_trade 23 = .ok (.astore 9, 2) := by decide +kernel
theorem dL_trade_25 : decode cL_trade 25 = .ok (.iconst 1, 1) := by decide +kernel
theorem dL_trade_26 : decode cL_trade 26 = .ok (.ireturn, 1) := by decide +kernel
theorem dL_trade_27 : decode cL_trade 27 = .ok (.astore 9, 2) := by decide +kernel
theorem dL_trade_29 : decode cL_trade 29 = .ok (.iconst 2, 1) := by decide +kernel
theorem dL_trade_30 : decode cL_trade 30 = .ok (.ireturn, 1) := by decide +kernel
theorem dL_trade_31 : decode cL_trade 31 = .ok (.astore 9, 2) := by decide +kernel
theorem dL_trade_33 : decode cL_trade 33 = .ok (.iconst 3, 1) := by decide +kernel
theorem dL_trade_34 : decode cL_trade 34 = .ok (.ireturn, 1) := by decide +kernel
theorem dL_trade_35 : decode cL_trade 35 = .ok (.iconst 0, 1) := by decide +kernel
theorem dL_trade_36 : decode cL_trade 36 = .ok (.ireturn, 1) := by decide +kernel
theorem dL_setTerms_0 : decode cL_setTerms 0 = .ok (.aload_n 0, 1) := by decide +kernel
theorem dL_setTerms_1 : decode cL_setTerms 1 = .ok (.iload_n 1, 1) := by decide +kernel
theorem dL_setTerms_2 : decode cL_setTerms 2 = .ok (.iload_n 2, 1) := by decide +kernel
theorem dL_setTerms_3 : decode cL_setTerms 3 = .ok (.iload_n 3, 1) := by decide +kernel
theorem dL_setTerms_4 : decode cL_setTerms 4 = .ok (.iload 4, 2) := by decide +kernel
theorem dL_setTerms_6 : decode cL_setTerms 6 = .ok (.invokevirtual 37, 3) := by decide +kernel
theorem dL_setTerms_9 : decode cL_setTerms 9 = .ok (.goto 15, 3) := by decide +kernel
theorem dL_setTerms_12 : decode cL_setTerms 12 = .ok (.astore 5, 2) := by decide +kernel
theorem dL_setTerms_14 : decode cL_setTerms 14 = .ok (.iconst 1, 1) := by decide +kernel
theorem dL_setTerms_15 : decode cL_setTerms 15 = .ok (.ireturn, 1) := by decide +kernel
theorem dL_setTerms_16 : decode cL_setTerms 16 = .ok (.astore 5, 2) := by decide +kernel
theorem dL_setTerms_18 : decode cL_setTerms 18 = .ok (.iconst 2, 1) := by decide +kernel
theorem dL_setTerms_19 : decode cL_setTerms 19 = .ok (.ireturn, 1) := by decide +kernel
theorem dL_setTerms_20 : decode cL_setTerms 20 = .ok (.astore 5, 2) := by decide +kernel
theorem dL_setTerms_22 : decode cL_setTerms 22 = .ok (.iconst 3, 1) := by decide +kernel
theorem dL_setTerms_23 : decode cL_setTerms 23 = .ok (.ireturn, 1) := by decide +kernel
theorem dL_setTerms_24 : decode cL_setTerms 24 = .ok (.iconst 0, 1) := by decide +kernel
theorem dL_setTerms_25 : decode cL_setTerms 25 = .ok (.ireturn, 1) := by decide +kernel
theorem dL_breakPart_0 : decode cL_breakPart 0 = .ok (.aload 4, 2) := by decide +kernel
theorem dL_breakPart_2 : decode cL_breakPart 2 = .ok (.iconst 0, 1) := by decide +kernel
theorem dL_breakPart_3 : decode cL_breakPart 3 = .ok (.aload_n 0, 1) := by decide +kernel
theorem dL_breakPart_4 : decode cL_breakPart 4 = .ok (.iload_n 1, 1) := by decide +kernel
theorem dL_breakPart_5 : decode cL_breakPart 5 = .ok (.iload_n 2, 1) := by decide +kernel
theorem dL_breakPart_6 : decode cL_breakPart 6 = .ok (.iload_n 3, 1) := by decide +kernel
theorem dL_breakPart_7 : decode cL_breakPart 7 = .ok (.invokevirtual 41, 3) := by decide +kernel
theorem dL_breakPart_10 : decode cL_breakPart 10 = .ok (.i2l, 1) := by decide +kernel
theorem dL_breakPart_11 : decode cL_breakPart 11 = .ok (.lastore, 1) := by decide +kernel
theorem dL_breakPart_12 : decode cL_breakPart 12 = .ok (.goto 15, 3) := by decide +kernel
theorem dL_breakPart_15 : decode cL_breakPart 15 = .ok (.astore 5, 2) := by decide +kernel
theorem dL_breakPart_17 : decode cL_breakPart 17 = .ok (.iconst 1, 1) := by decide +kernel
theorem dL_breakPart_18 : decode cL_breakPart 18 = .ok (.ireturn, 1) := by decide +kernel
theorem dL_breakPart_19 : decode cL_breakPart 19 = .ok (.astore 5, 2) := by decide +kernel
theorem dL_breakPart_21 : decode cL_breakPart 21 = .ok (.iconst 2, 1) := by decide +kernel
theorem dL_breakPart_22 : decode cL_breakPart 22 = .ok (.ireturn, 1) := by decide +kernel
theorem dL_breakPart_23 : decode cL_breakPart 23 = .ok (.astore 5, 2) := by decide +kernel
theorem dL_breakPart_25 : decode cL_breakPart 25 = .ok (.iconst 3, 1) := by decide +kernel
theorem dL_breakPart_26 : decode cL_breakPart 26 = .ok (.ireturn, 1) := by decide +kernel
theorem dL_breakPart_27 : decode cL_breakPart 27 = .ok (.iconst 0, 1) := by decide +kernel
theorem dL_breakPart_28 : decode cL_breakPart 28 = .ok (.ireturn, 1) := by decide +kernel
theorem dL_handOver_0 : decode cL_handOver 0 = .ok (.aload 4, 2) := by decide +kernel
theorem dL_handOver_2 : decode cL_handOver 2 = .ok (.iconst 0, 1) := by decide +kernel
theorem dL_handOver_3 : decode cL_handOver 3 = .ok (.aload_n 0, 1) := by decide +kernel
theorem dL_handOver_4 : decode cL_handOver 4 = .ok (.iload_n 1, 1) := by decide +kernel
theorem dL_handOver_5 : decode cL_handOver 5 = .ok (.iload_n 2, 1) := by decide +kernel
theorem dL_handOver_6 : decode cL_handOver 6 = .ok (.iload_n 3, 1) := by decide +kernel
theorem dL_handOver_7 : decode cL_handOver 7 = .ok (.invokevirtual 45, 3) := by decide +kernel
theorem dL_handOver_10 : decode cL_handOver 10 = .ok (.i2l, 1) := by decide +kernel
theorem dL_handOver_11 : decode cL_handOver 11 = .ok (.lastore, 1) := by decide +kernel
theorem dL_handOver_12 : decode cL_handOver 12 = .ok (.goto 15, 3) := by decide +kernel
theorem dL_handOver_15 : decode cL_handOver 15 = .ok (.astore 5, 2) := by decide +kernel
theorem dL_handOver_17 : decode cL_handOver 17 = .ok (.iconst 1, 1) := by decide +kernel
theorem dL_handOver_18 : decode cL_handOver 18 = .ok (.ireturn, 1) := by decide +kernel
theorem dL_handOver_19 : decode cL_handOver 19 = .ok (.astore 5, 2) := by decide +kernel
theorem dL_handOver_21 : decode cL_handOver 21 = .ok (.iconst 2, 1) := by decide +kernel
theorem dL_handOver_22 : decode cL_handOver 22 = .ok (.ireturn, 1) := by decide +kernel
theorem dL_handOver_23 : decode cL_handOver 23 = .ok (.astore 5, 2) := by decide +kernel
theorem dL_handOver_25 : decode cL_handOver 25 = .ok (.iconst 3, 1) := by decide +kernel
theorem dL_handOver_26 : decode cL_handOver 26 = .ok (.ireturn, 1) := by decide +kernel
theorem dL_handOver_27 : decode cL_handOver 27 = .ok (.iconst 0, 1) := by decide +kernel
theorem dL_handOver_28 : decode cL_handOver 28 = .ok (.ireturn, 1) := by decide +kernel
theorem dL_press_0 : decode cL_press 0 = .ok (.aload_n 2, 1) := by decide +kernel
theorem dL_press_1 : decode cL_press 1 = .ok (.iconst 0, 1) := by decide +kernel
theorem dL_press_2 : decode cL_press 2 = .ok (.aload_n 0, 1) := by decide +kernel
theorem dL_press_3 : decode cL_press 3 = .ok (.iload_n 1, 1) := by decide +kernel
theorem dL_press_4 : decode cL_press 4 = .ok (.invokevirtual 48, 3) := by decide +kernel
theorem dL_press_7 : decode cL_press 7 = .ok (.i2l, 1) := by decide +kernel
theorem dL_press_8 : decode cL_press 8 = .ok (.lastore, 1) := by decide +kernel
theorem dL_press_9 : decode cL_press 9 = .ok (.goto 6, 3) := by decide +kernel
theorem dL_press_12 : decode cL_press 12 = .ok (.astore_n 3, 1) := by decide +kernel
theorem dL_press_13 : decode cL_press 13 = .ok (.iconst 1, 1) := by decide +kernel
theorem dL_press_14 : decode cL_press 14 = .ok (.ireturn, 1) := by decide +kernel
theorem dL_press_15 : decode cL_press 15 = .ok (.iconst 0, 1) := by decide +kernel
theorem dL_press_16 : decode cL_press 16 = .ok (.ireturn, 1) := by decide +kernel
theorem dL_start_0 : decode cL_start 0 = .ok (.aload_n 3, 1) := by decide +kernel
theorem dL_start_1 : decode cL_start 1 = .ok (.iconst 0, 1) := by decide +kernel
theorem dL_start_2 : decode cL_start 2 = .ok (.aload_n 0, 1) := by decide +kernel
theorem dL_start_3 : decode cL_start 3 = .ok (.iload_n 1, 1) := by decide +kernel
theorem dL_start_4 : decode cL_start 4 = .ok (.iload_n 2, 1) := by decide +kernel
theorem dL_start_5 : decode cL_start 5 = .ok (.invokevirtual 51, 3) := by decide +kernel
theorem dL_start_8 : decode cL_start 8 = .ok (.i2l, 1) := by decide +kernel
theorem dL_start_9 : decode cL_start 9 = .ok (.lastore, 1) := by decide +kernel
theorem dL_start_10 : decode cL_start 10 = .ok (.goto 7, 3) := by decide +kernel
theorem dL_start_13 : decode cL_start 13 = .ok (.astore 4, 2) := by decide +kernel
theorem dL_start_15 : decode cL_start 15 = .ok (.iconst 1, 1) := by decide +kernel
theorem dL_start_16 : decode cL_start 16 = .ok (.ireturn, 1) := by decide +kernel
theorem dL_start_17 : decode cL_start 17 = .ok (.iconst 0, 1) := by decide +kernel
theorem dL_start_18 : decode cL_start 18 = .ok (.ireturn, 1) := by decide +kernel
theorem dL_end_0 : decode cL_end 0 = .ok (.aload_n 3, 1) := by decide +kernel
theorem dL_end_1 : decode cL_end 1 = .ok (.iconst 0, 1) := by decide +kernel
theorem dL_end_2 : decode cL_end 2 = .ok (.aload_n 0, 1) := by decide +kernel
theorem dL_end_3 : decode cL_end 3 = .ok (.iload_n 1, 1) := by decide +kernel
theorem dL_end_4 : decode cL_end 4 = .ok (.iload_n 2, 1) := by decide +kernel
theorem dL_end_5 : decode cL_end 5 = .ok (.invokevirtual 54, 3) := by decide +kernel
theorem dL_end_8 : decode cL_end 8 = .ok (.i2l, 1) := by decide +kernel
theorem dL_end_9 : decode cL_end 9 = .ok (.lastore, 1) := by decide +kernel
theorem dL_end_10 : decode cL_end 10 = .ok (.goto 7, 3) := by decide +kernel
theorem dL_end_13 : decode cL_end 13 = .ok (.astore 4, 2) := by decide +kernel
theorem dL_end_15 : decode cL_end 15 = .ok (.iconst 1, 1) := by decide +kernel
theorem dL_end_16 : decode cL_end 16 = .ok (.ireturn, 1) := by decide +kernel
theorem dL_end_17 : decode cL_end 17 = .ok (.iconst 0, 1) := by decide +kernel
theorem dL_end_18 : decode cL_end 18 = .ok (.ireturn, 1) := by decide +kernel
theorem dL_lots_0 : decode cL_lots 0 = .ok (.aload_n 3, 1) := by decide +kernel
theorem dL_lots_1 : decode cL_lots 1 = .ok (.iconst 0, 1) := by decide +kernel
theorem dL_lots_2 : decode cL_lots 2 = .ok (.aload_n 0, 1) := by decide +kernel
theorem dL_lots_3 : decode cL_lots 3 = .ok (.iload_n 1, 1) := by decide +kernel
theorem dL_lots_4 : decode cL_lots 4 = .ok (.iload_n 2, 1) := by decide +kernel
theorem dL_lots_5 : decode cL_lots 5 = .ok (.invokevirtual 57, 3) := by decide +kernel
theorem dL_lots_8 : decode cL_lots 8 = .ok (.i2l, 1) := by decide +kernel
theorem dL_lots_9 : decode cL_lots 9 = .ok (.lastore, 1) := by decide +kernel
theorem dL_lots_10 : decode cL_lots 10 = .ok (.goto 7, 3) := by decide +kernel
theorem dL_lots_13 : decode cL_lots 13 = .ok (.astore 4, 2) := by decide +kernel
theorem dL_lots_15 : decode cL_lots 15 = .ok (.iconst 1, 1) := by decide +kernel
theorem dL_lots_16 : decode cL_lots 16 = .ok (.ireturn, 1) := by decide +kernel
theorem dL_lots_17 : decode cL_lots 17 = .ok (.iconst 0, 1) := by decide +kernel
theorem dL_lots_18 : decode cL_lots 18 = .ok (.ireturn, 1) := by decide +kernel
theorem dL_floating_0 : decode cL_floating 0 = .ok (.aload_n 3, 1) := by decide +kernel
theorem dL_floating_1 : decode cL_floating 1 = .ok (.iconst 0, 1) := by decide +kernel
theorem dL_floating_2 : decode cL_floating 2 = .ok (.aload_n 0, 1) := by decide +kernel
theorem dL_floating_3 : decode cL_floating 3 = .ok (.iload_n 1, 1) := by decide +kernel
theorem dL_floating_4 : decode cL_floating 4 = .ok (.iload_n 2, 1) := by decide +kernel
theorem dL_floating_5 : decode cL_floating 5 = .ok (.invokevirtual 60, 3) := by decide +kernel
theorem dL_floating_8 : decode cL_floating 8 = .ok (.lastore, 1) := by decide +kernel
theorem dL_floating_9 : decode cL_floating 9 = .ok (.goto 7, 3) := by decide +kernel
theorem dL_floating_12 : decode cL_floating 12 = .ok (.astore 4, 2) := by decide +kernel
theorem dL_floating_14 : decode cL_floating 14 = .ok (.iconst 1, 1) := by decide +kernel
theorem dL_floating_15 : decode cL_floating 15 = .ok (.ireturn, 1) := by decide +kernel
theorem dL_floating_16 : decode cL_floating 16 = .ok (.iconst 0, 1) := by decide +kernel
theorem dL_floating_17 : decode cL_floating 17 = .ok (.ireturn, 1) := by decide +kernel
theorem dL_flow_0 : decode cL_flow 0 = .ok (.aload_n 3, 1) := by decide +kernel
theorem dL_flow_1 : decode cL_flow 1 = .ok (.iconst 0, 1) := by decide +kernel
theorem dL_flow_2 : decode cL_flow 2 = .ok (.aload_n 0, 1) := by decide +kernel
theorem dL_flow_3 : decode cL_flow 3 = .ok (.iload_n 1, 1) := by decide +kernel
theorem dL_flow_4 : decode cL_flow 4 = .ok (.iload_n 2, 1) := by decide +kernel
theorem dL_flow_5 : decode cL_flow 5 = .ok (.invokevirtual 64, 3) := by decide +kernel
theorem dL_flow_8 : decode cL_flow 8 = .ok (.lastore, 1) := by decide +kernel
theorem dL_flow_9 : decode cL_flow 9 = .ok (.goto 7, 3) := by decide +kernel
theorem dL_flow_12 : decode cL_flow 12 = .ok (.astore 4, 2) := by decide +kernel
theorem dL_flow_14 : decode cL_flow 14 = .ok (.iconst 1, 1) := by decide +kernel
theorem dL_flow_15 : decode cL_flow 15 = .ok (.ireturn, 1) := by decide +kernel
theorem dL_flow_16 : decode cL_flow 16 = .ok (.iconst 0, 1) := by decide +kernel
theorem dL_flow_17 : decode cL_flow 17 = .ok (.ireturn, 1) := by decide +kernel
theorem dL_partyOn_0 : decode cL_partyOn 0 = .ok (.aload_n 3, 1) := by decide +kernel
theorem dL_partyOn_1 : decode cL_partyOn 1 = .ok (.iconst 0, 1) := by decide +kernel
theorem dL_partyOn_2 : decode cL_partyOn 2 = .ok (.aload_n 0, 1) := by decide +kernel
theorem dL_partyOn_3 : decode cL_partyOn 3 = .ok (.iload_n 1, 1) := by decide +kernel
theorem dL_partyOn_4 : decode cL_partyOn 4 = .ok (.iload_n 2, 1) := by decide +kernel
theorem dL_partyOn_5 : decode cL_partyOn 5 = .ok (.invokevirtual 67, 3) := by decide +kernel
theorem dL_partyOn_8 : decode cL_partyOn 8 = .ok (.i2l, 1) := by decide +kernel
theorem dL_partyOn_9 : decode cL_partyOn 9 = .ok (.lastore, 1) := by decide +kernel
theorem dL_partyOn_10 : decode cL_partyOn 10 = .ok (.goto 11, 3) := by decide +kernel
theorem dL_partyOn_13 : decode cL_partyOn 13 = .ok (.astore 4, 2) := by decide +kernel
theorem dL_partyOn_15 : decode cL_partyOn 15 = .ok (.iconst 1, 1) := by decide +kernel
theorem dL_partyOn_16 : decode cL_partyOn 16 = .ok (.ireturn, 1) := by decide +kernel
theorem dL_partyOn_17 : decode cL_partyOn 17 = .ok (.astore 4, 2) := by decide +kernel
theorem dL_partyOn_19 : decode cL_partyOn 19 = .ok (.iconst 2, 1) := by decide +kernel
theorem dL_partyOn_20 : decode cL_partyOn 20 = .ok (.ireturn, 1) := by decide +kernel
theorem dL_partyOn_21 : decode cL_partyOn 21 = .ok (.iconst 0, 1) := by decide +kernel
theorem dL_partyOn_22 : decode cL_partyOn 22 = .ok (.ireturn, 1) := by decide +kernel
theorem dL_cash_0 : decode cL_cash 0 = .ok (.aload_n 3, 1) := by decide +kernel
theorem dL_cash_1 : decode cL_cash 1 = .ok (.iconst 0, 1) := by decide +kernel
theorem dL_cash_2 : decode cL_cash 2 = .ok (.aload_n 0, 1) := by decide +kernel
theorem dL_cash_3 : decode cL_cash 3 = .ok (.iload_n 1, 1) := by decide +kernel
theorem dL_cash_4 : decode cL_cash 4 = .ok (.iload_n 2, 1) := by decide +kernel
theorem dL_cash_5 : decode cL_cash 5 = .ok (.invokevirtual 70, 3) := by decide +kernel
theorem dL_cash_8 : decode cL_cash 8 = .ok (.lastore, 1) := by decide +kernel
theorem dL_cash_9 : decode cL_cash 9 = .ok (.goto 11, 3) := by decide +kernel
theorem dL_cash_12 : decode cL_cash 12 = .ok (.astore 4, 2) := by decide +kernel
theorem dL_cash_14 : decode cL_cash 14 = .ok (.iconst 1, 1) := by decide +kernel
theorem dL_cash_15 : decode cL_cash 15 = .ok (.ireturn, 1) := by decide +kernel
theorem dL_cash_16 : decode cL_cash 16 = .ok (.astore 4, 2) := by decide +kernel
theorem dL_cash_18 : decode cL_cash 18 = .ok (.iconst 2, 1) := by decide +kernel
theorem dL_cash_19 : decode cL_cash 19 = .ok (.ireturn, 1) := by decide +kernel
theorem dL_cash_20 : decode cL_cash 20 = .ok (.iconst 0, 1) := by decide +kernel
theorem dL_cash_21 : decode cL_cash 21 = .ok (.ireturn, 1) := by decide +kernel
theorem dL_cashOfDays_0 : decode cL_cashOfDays 0 = .ok (.aload 4, 2) := by decide +kernel
theorem dL_cashOfDays_2 : decode cL_cashOfDays 2 = .ok (.iconst 0, 1) := by decide +kernel
theorem dL_cashOfDays_3 : decode cL_cashOfDays 3 = .ok (.aload_n 0, 1) := by decide +kernel
theorem dL_cashOfDays_4 : decode cL_cashOfDays 4 = .ok (.iload_n 1, 1) := by decide +kernel
theorem dL_cashOfDays_5 : decode cL_cashOfDays 5 = .ok (.iload_n 2, 1) := by decide +kernel
theorem dL_cashOfDays_6 : decode cL_cashOfDays 6 = .ok (.iload_n 3, 1) := by decide +kernel
theorem dL_cashOfDays_7 : decode cL_cashOfDays 7 = .ok (.invokevirtual 73, 3) := by decide +kernel
theorem dL_cashOfDays_10 : decode cL_cashOfDays 10 = .ok (.lastore, 1) := by decide +kernel
theorem dL_cashOfDays_11 : decode cL_cashOfDays 11 = .ok (.goto 11, 3) := by decide +kernel
theorem dL_cashOfDays_14 : decode cL_cashOfDays 14 = .ok (.astore 5, 2) := by decide +kernel
theorem dL_cashOfDays_16 : decode cL_cashOfDays 16 = .ok (.iconst 1, 1) := by decide +kernel
theorem dL_cashOfDays_17 : decode cL_cashOfDays 17 = .ok (.ireturn, 1) := by decide +kernel
theorem dL_cashOfDays_18 : decode cL_cashOfDays 18 = .ok (.astore 5, 2) := by decide +kernel
theorem dL_cashOfDays_20 : decode cL_cashOfDays 20 = .ok (.iconst 2, 1) := by decide +kernel
theorem dL_cashOfDays_21 : decode cL_cashOfDays 21 = .ok (.ireturn, 1) := by decide +kernel
theorem dL_cashOfDays_22 : decode cL_cashOfDays 22 = .ok (.iconst 0, 1) := by decide +kernel
theorem dL_cashOfDays_23 : decode cL_cashOfDays 23 = .ok (.ireturn, 1) := by decide +kernel
theorem dL_cashByTrades_0 : decode cL_cashByTrades 0 = .ok (.aload 4, 2) := by decide +kernel
theorem dL_cashByTrades_2 : decode cL_cashByTrades 2 = .ok (.iconst 0, 1) := by decide +kernel
theorem dL_cashByTrades_3 : decode cL_cashByTrades 3 = .ok (.aload_n 0, 1) := by decide +kernel
theorem dL_cashByTrades_4 : decode cL_cashByTrades 4 = .ok (.iload_n 1, 1) := by decide +kernel
theorem dL_cashByTrades_5 : decode cL_cashByTrades 5 = .ok (.iload_n 2, 1) := by decide +kernel
theorem dL_cashByTrades_6 : decode cL_cashByTrades 6 = .ok (.iload_n 3, 1) := by decide +kernel
theorem dL_cashByTrades_7 : decode cL_cashByTrades 7 = .ok (.invokevirtual 77, 3) := by decide +kernel
theorem dL_cashByTrades_10 : decode cL_cashByTrades 10 = .ok (.lastore, 1) := by decide +kernel
theorem dL_cashByTrades_11 : decode cL_cashByTrades 11 = .ok (.goto 11, 3) := by decide +kernel
theorem dL_cashByTrades_14 : decode cL_cashByTrades 14 = .ok (.astore 5, 2) := by decide +kernel
theorem dL_cashByTrades_16 : decode cL_cashByTrades 16 = .ok (.iconst 1, 1) := by decide +kernel
theorem dL_cashByTrades_17 : decode cL_cashByTrades 17 = .ok (.ireturn, 1) := by decide +kernel
theorem dL_cashByTrades_18 : decode cL_cashByTrades 18 = .ok (.astore 5, 2) := by decide +kernel
theorem dL_cashByTrades_20 : decode cL_cashByTrades 20 = .ok (.iconst 2, 1) := by decide +kernel
theorem dL_cashByTrades_21 : decode cL_cashByTrades 21 = .ok (.ireturn, 1) := by decide +kernel
theorem dL_cashByTrades_22 : decode cL_cashByTrades 22 = .ok (.iconst 0, 1) := by decide +kernel
theorem dL_cashByTrades_23 : decode cL_cashByTrades 23 = .ok (.ireturn, 1) := by decide +kernel
theorem dL_nextFlow_0 : decode cL_nextFlow 0 = .ok (.aload_n 3, 1) := by decide +kernel
theorem dL_nextFlow_1 : decode cL_nextFlow 1 = .ok (.iconst 0, 1) := by decide +kernel
theorem dL_nextFlow_2 : decode cL_nextFlow 2 = .ok (.aload_n 0, 1) := by decide +kernel
theorem dL_nextFlow_3 : decode cL_nextFlow 3 = .ok (.iload_n 1, 1) := by decide +kernel
theorem dL_nextFlow_4 : decode cL_nextFlow 4 = .ok (.iload_n 2, 1) := by decide +kernel
theorem dL_nextFlow_5 : decode cL_nextFlow 5 = .ok (.invokevirtual 80, 3) := by decide +kernel
theorem dL_nextFlow_8 : decode cL_nextFlow 8 = .ok (.i2l, 1) := by decide +kernel
theorem dL_nextFlow_9 : decode cL_nextFlow 9 = .ok (.lastore, 1) := by decide +kernel
theorem dL_nextFlow_10 : decode cL_nextFlow 10 = .ok (.goto 11, 3) := by decide +kernel
theorem dL_nextFlow_13 : decode cL_nextFlow 13 = .ok (.astore 4, 2) := by decide +kernel
theorem dL_nextFlow_15 : decode cL_nextFlow 15 = .ok (.iconst 1, 1) := by decide +kernel
theorem dL_nextFlow_16 : decode cL_nextFlow 16 = .ok (.ireturn, 1) := by decide +kernel
theorem dL_nextFlow_17 : decode cL_nextFlow 17 = .ok (.astore 4, 2) := by decide +kernel
theorem dL_nextFlow_19 : decode cL_nextFlow 19 = .ok (.iconst 2, 1) := by decide +kernel
theorem dL_nextFlow_20 : decode cL_nextFlow 20 = .ok (.ireturn, 1) := by decide +kernel
theorem dL_nextFlow_21 : decode cL_nextFlow 21 = .ok (.iconst 0, 1) := by decide +kernel
theorem dL_nextFlow_22 : decode cL_nextFlow 22 = .ok (.ireturn, 1) := by decide +kernel
end
section
theorem dL_law_0 : decode cL_law 0 = .ok (.new 8, 3) := by decide +kernel
theorem dL_law_3 : decode cL_law 3 = .ok (.dup, 1) := by decide +kernel
theorem dL_law_4 : decode cL_law 4 = .ok (.invokespecial 83, 3) := by decide +kernel
theorem dL_law_7 : decode cL_law 7 = .ok (.astore_n 1, 1) := by decide +kernel
theorem dL_law_8 : decode cL_law 8 = .ok (.new 84, 3) := by decide +kernel
theorem dL_law_11 : decode cL_law 11 = .ok (.dup, 1) := by decide +kernel
theorem dL_law_12 : decode cL_law 12 = .ok (.invokespecial 86, 3) := by decide +kernel
theorem dL_law_15 : decode cL_law 15 = .ok (.astore_n 2, 1) := by decide +kernel
theorem dL_law_16 : decode cL_law 16 = .ok (.iconst 1, 1) := by decide +kernel
theorem dL_law_17 : decode cL_law 17 = .ok (.newarray .long, 2) := by decide +kernel
theorem dL_law_19 : decode cL_law 19 = .ok (.astore_n 3, 1) := by decide +kernel
theorem dL_law_20 : decode cL_law 20 = .ok (.iconst 0, 1) := by decide +kernel
theorem dL_law_21 : decode cL_law 21 = .ok (.istore 4, 2) := by decide +kernel
theorem dL_law_23 : decode cL_law 23 = .ok (.iload 4, 2) := by decide +kernel
theorem dL_law_25 : decode cL_law 25 = .ok (.aload_n 0, 1) := by decide +kernel
theorem dL_law_26 : decode cL_law 26 = .ok (.arraylength, 1) := by decide +kernel
theorem dL_law_27 : decode cL_law 27 = .ok (.bipush 8, 2) := by decide +kernel
theorem dL_law_29 : decode cL_law 29 = .ok (.isub, 1) := by decide +kernel
theorem dL_law_30 : decode cL_law 30 = .ok (.if_icmp .gt 1575, 3) := by decide +kernel
theorem dL_law_33 : decode cL_law 33 = .ok (.aload_n 0, 1) := by decide +kernel
theorem dL_law_34 : decode cL_law 34 = .ok (.iload 4, 2) := by decide +kernel
theorem dL_law_36 : decode cL_law 36 = .ok (.iaload, 1) := by decide +kernel
theorem dL_law_37 : decode cL_law 37 = .ok (.bipush 31, 2) := by decide +kernel
theorem dL_law_39 : decode cL_law 39 = .ok (.iand, 1) := by decide +kernel
theorem dL_law_40 : decode cL_law 40 = .ok (.tableswitch 1559 0 20 #[100, 168, 231, 287, 355, 411, 559, 631, 711, 791, 847, 860, 928, 996, 1064, 1131, 1198, 1266, 1333, 1412, 1491], 100) := by decide +kernel
theorem dL_law_140 : decode cL_law 140 = .ok (.aload_n 1, 1) := by decide +kernel
theorem dL_law_141 : decode cL_law 141 = .ok (.aload_n 0, 1) := by decide +kernel
theorem dL_law_142 : decode cL_law 142 = .ok (.iload 4, 2) := by decide +kernel
theorem dL_law_144 : decode cL_law 144 = .ok (.iconst 1, 1) := by decide +kernel
theorem dL_law_145 : decode cL_law 145 = .ok (.iadd, 1) := by decide +kernel
theorem dL_law_146 : decode cL_law 146 = .ok (.iaload, 1) := by decide +kernel
theorem dL_law_147 : decode cL_law 147 = .ok (.aload_n 0, 1) := by decide +kernel
theorem dL_law_148 : decode cL_law 148 = .ok (.iload 4, 2) := by decide +kernel
theorem dL_law_150 : decode cL_law 150 = .ok (.iconst 2, 1) := by decide +kernel
theorem dL_law_151 : decode cL_law 151 = .ok (.iadd, 1) := by decide +kernel
theorem dL_law_152 : decode cL_law 152 = .ok (.iaload, 1) := by decide +kernel
theorem dL_law_153 : decode cL_law 153 = .ok (.aload_n 3, 1) := by decide +kernel
theorem dL_law_154 : decode cL_law 154 = .ok (.invokestatic 87, 3) := by decide +kernel
theorem dL_law_157 : decode cL_law 157 = .ok (.istore 5, 2) := by decide +kernel
theorem dL_law_159 : decode cL_law 159 = .ok (.aload_n 2, 1) := by decide +kernel
theorem dL_law_160 : decode cL_law 160 = .ok (.aload_n 0, 1) := by decide +kernel
theorem dL_law_161 : decode cL_law 161 = .ok (.iload 4, 2) := by decide +kernel
theorem dL_law_163 : decode cL_law 163 = .ok (.iconst 1, 1) := by decide +kernel
theorem dL_law_164 : decode cL_law 164 = .ok (.iadd, 1) := by decide +kernel
theorem dL_law_165 : decode cL_law 165 = .ok (.iaload, 1) := by decide +kernel
theorem dL_law_166 : decode cL_law 166 = .ok (.aload_n 0, 1) := by decide +kernel
theorem dL_law_167 : decode cL_law 167 = .ok (.iload 4, 2) := by decide +kernel
theorem dL_law_169 : decode cL_law 169 = .ok (.iconst 2, 1) := by decide +kernel
theorem dL_law_170 : decode cL_law 170 = .ok (.iadd, 1) := by decide +kernel
theorem dL_law_171 : decode cL_law 171 = .ok (.iaload, 1) := by decide +kernel
theorem dL_law_172 : decode cL_law 172 = .ok (.invokevirtual 92, 3) := by decide +kernel
theorem dL_law_175 : decode cL_law 175 = .ok (.istore 6, 2) := by decide +kernel
theorem dL_law_177 : decode cL_law 177 = .ok (.aload_n 2, 1) := by decide +kernel
theorem dL_law_178 : decode cL_law 178 = .ok (.invokevirtual 93, 3) := by decide +kernel
theorem dL_law_181 : decode cL_law 181 = .ok (.iload 5, 2) := by decide +kernel
theorem dL_law_183 : decode cL_law 183 = .ok (.if_icmp .eq 5, 3) := by decide +kernel
theorem dL_law_186 : decode cL_law 186 = .ok (.iconst 0, 1) := by decide +kernel
theorem dL_law_187 : decode cL_law 187 = .ok (.ireturn, 1) := by decide +kernel
theorem dL_law_188 : decode cL_law 188 = .ok (.iload 5, 2) := by decide +kernel
theorem dL_law_190 : decode cL_law 190 = .ok (.ifCond .ne 15, 3) := by decide +kernel
theorem dL_law_193 : decode cL_law 193 = .ok (.aload_n 3, 1) := by decide +kernel
theorem dL_law_194 : decode cL_law 194 = .ok (.iconst 0, 1) := by decide +kernel
theorem dL_law_195 : decode cL_law 195 = .ok (.laload, 1) := by decide +kernel
theorem dL_law_196 : decode cL_law 196 = .ok (.iload 6, 2) := by decide +kernel
theorem dL_law_198 : decode cL_law 198 = .ok (.i2l, 1) := by decide +kernel
theorem dL_law_199 : decode cL_law 199 = .ok (.lcmp, 1) := by decide +kernel
theorem dL_law_200 : decode cL_law 200 = .ok (.ifCond .eq 5, 3) := by decide +kernel
theorem dL_law_203 : decode cL_law 203 = .ok (.iconst 0, 1) := by decide +kernel
theorem dL_law_204 : decode cL_law 204 = .ok (.ireturn, 1) := by decide +kernel
theorem dL_law_205 : decode cL_law 205 = .ok (.goto 1394, 3) := by decide +kernel
theorem dL_law_208 : decode cL_law 208 = .ok (.aload_n 1, 1) := by decide +kernel
theorem dL_law_209 : decode cL_law 209 = .ok (.aload_n 0, 1) := by decide +kernel
theorem dL_law_210 : decode cL_law 210 = .ok (.iload 4, 2) := by decide +kernel
theorem dL_law_212 : decode cL_law 212 = .ok (.iconst 1, 1) := by decide +kernel
theorem dL_law_213 : decode cL_law 213 = .ok (.iadd, 1) := by decide +kernel
theorem dL_law_214 : decode cL_law 214 = .ok (.iaload, 1) := by decide +kernel
theorem dL_law_215 : decode cL_law 215 = .ok (.aload_n 3, 1) := by decide +kernel
theorem dL_law_216 : decode cL_law 216 = .ok (.invokestatic 97, 3) := by decide +kernel
theorem dL_law_219 : decode cL_law 219 = .ok (.istore 5, 2) := by decide +kernel
theorem dL_law_221 : decode cL_law 221 = .ok (.aload_n 2, 1) := by decide +kernel
theorem dL_law_222 : decode cL_law 222 = .ok (.aload_n 0, 1) := by decide +kernel
theorem dL_law_223 : decode cL_law 223 = .ok (.iload 4, 2) := by decide +kernel
theorem dL_law_225 : decode cL_law 225 = .ok (.iconst 1, 1) := by decide +kernel
theorem dL_law_226 : decode cL_law 226 = .ok (.iadd, 1) := by decide +kernel
theorem dL_law_227 : decode cL_law 227 = .ok (.iaload, 1) := by decide +kernel
theorem dL_law_228 : decode cL_law 228 = .ok (.invokevirtual 100, 3) := by decide +kernel
theorem dL_law_231 : decode cL_law 231 = .ok (.istore 6, 2) := by decide +kernel
theorem dL_law_233 : decode cL_law 233 = .ok (.aload_n 2, 1) := by decide +kernel
theorem dL_law_234 : decode cL_law 234 = .ok (.invokevirtual 93, 3) := by decide +kernel
theorem dL_law_237 : decode cL_law 237 = .ok (.iload 5, 2) := by decide +kernel
theorem dL_law_239 : decode cL_law 239 = .ok (.if_icmp .eq 5, 3) := by decide +kernel
theorem dL_law_242 : decode cL_law 242 = .ok (.iconst 0, 1) := by decide +kernel
theorem dL_law_243 : decode cL_law 243 = .ok (.ireturn, 1) := by decide +kernel
theorem dL_law_244 : decode cL_law 244 = .ok (.iload 5, 2) := by decide +kernel
theorem dL_law_246 : decode cL_law 246 = .ok (.ifCond .ne 22, 3) := by decide +kernel
theorem dL_law_249 : decode cL_law 249 = .ok (.aload_n 3, 1) := by decide +kernel
theorem dL_law_250 : decode cL_law 250 = .ok (.iconst 0, 1) := by decide +kernel
theorem dL_law_251 : decode cL_law 251 = .ok (.laload, 1) := by decide +kernel
theorem dL_law_252 : decode cL_law 252 = .ok (.iload 6, 2) := by decide +kernel
theorem dL_law_254 : decode cL_law 254 = .ok (.ifCond .eq 7, 3) := by decide +kernel
theorem dL_law_257 : decode cL_law 257 = .ok (.lconst 1, 1) := by decide +kernel
theorem dL_law_258 : decode cL_law 258 = .ok (.goto 4, 3) := by decide +kernel
theorem dL_law_261 : decode cL_law 261 = .ok (.lconst 0, 1) := by decide +kernel
theorem dL_law_262 : decode cL_law 262 = .ok (.lcmp, 1) := by decide +kernel
theorem dL_law_263 : decode cL_law 263 = .ok (.ifCond .eq 5, 3) := by decide +kernel
theorem dL_law_266 : decode cL_law 266 = .ok (.iconst 0, 1) := by decide +kernel
theorem dL_law_267 : decode cL_law 267 = .ok (.ireturn, 1) := by decide +kernel
theorem dL_law_268 : decode cL_law 268 = .ok (.goto 1331, 3) := by decide +kernel
theorem dL_law_271 : decode cL_law 271 = .ok (.aload_n 1, 1) := by decide +kernel
theorem dL_law_272 : decode cL_law 272 = .ok (.aload_n 0, 1) := by decide +kernel
theorem dL_law_273 : decode cL_law 273 = .ok (.iload 4, 2) := by decide +kernel
theorem dL_law_275 : decode cL_law 275 = .ok (.iconst 1, 1) := by decide +kernel
theorem dL_law_276 : decode cL_law 276 = .ok (.iadd, 1) := by decide +kernel
theorem dL_law_277 : decode cL_law 277 = .ok (.iaload, 1) := by decide +kernel
theorem dL_law_278 : decode cL_law 278 = .ok (.aload_n 3, 1) := by decide +kernel
theorem dL_law_279 : decode cL_law 279 = .ok (.invokestatic 101, 3) := by decide +kernel
theorem dL_law_282 : decode cL_law 282 = .ok (.istore 5, 2) := by decide +kernel
theorem dL_law_284 : decode cL_law 284 = .ok (.aload_n 2, 1) := by decide +kernel
theorem dL_law_285 : decode cL_law 285 = .ok (.aload_n 0, 1) := by decide +kernel
theorem dL_law_286 : decode cL_law 286 = .ok (.iload 4, 2) := by decide +kernel
theorem dL_law_288 : decode cL_law 288 = .ok (.iconst 1, 1) := by decide +kernel
theorem dL_law_289 : decode cL_law 289 = .ok (.iadd, 1) := by decide +kernel
theorem dL_law_290 : decode cL_law 290 = .ok (.iaload, 1) := by decide +kernel
theorem dL_law_291 : decode cL_law 291 = .ok (.invokevirtual 103, 3) := by decide +kernel
theorem dL_law_294 : decode cL_law 294 = .ok (.istore 6, 2) := by decide +kernel
theorem dL_law_296 : decode cL_law 296 = .ok (.aload_n 2, 1) := by decide +kernel
theorem dL_law_297 : decode cL_law 297 = .ok (.invokevirtual 93, 3) := by decide +kernel
theorem dL_law_300 : decode cL_law 300 = .ok (.iload 5, 2) := by decide +kernel
theorem dL_law_302 : decode cL_law 302 = .ok (.if_icmp .eq 5, 3) := by decide +kernel
theorem dL_law_305 : decode cL_law 305 = .ok (.iconst 0, 1) := by decide +kernel
theorem dL_law_306 : decode cL_law 306 = .ok (.ireturn, 1) := by decide +kernel
theorem dL_law_307 : decode cL_law 307 = .ok (.iload 5, 2) := by decide +kernel
theorem dL_law_309 : decode cL_law 309 = .ok (.ifCond .ne 15, 3) := by decide +kernel
theorem dL_law_312 : decode cL_law 312 = .ok (.aload_n 3, 1) := by decide +kernel
theorem dL_law_313 : decode cL_law 313 = .ok (.iconst 0, 1) := by decide +kernel
theorem dL_law_314 : decode cL_law 314 = .ok (.laload, 1) := by decide +kernel
theorem dL_law_315 : decode cL_law 315 = .ok (.iload 6, 2) := by decide +kernel
theorem dL_law_317 : decode cL_law 317 = .ok (.i2l, 1) := by decide +kernel
theorem dL_law_318 : decode cL_law 318 = .ok (.lcmp, 1) := by decide +kernel
theorem dL_law_319 : decode cL_law 319 = .ok (.ifCond .eq 5, 3) := by decide +kernel
theorem dL_law_322 : decode cL_law 322 = .ok (.iconst 0, 1) := by decide +kernel
theorem dL_law_323 : decode cL_law 323 = .ok (.ireturn, 1) := by decide +kernel
theorem dL_law_324 : decode cL_law 324 = .ok (.goto 1275, 3) := by decide +kernel
theorem dL_law_327 : decode cL_law 327 = .ok (.aload_n 1, 1) := by decide +kernel
theorem dL_law_328 : decode cL_law 328 = .ok (.aload_n 0, 1) := by decide +kernel
theorem dL_law_329 : decode cL_law 329 = .ok (.iload 4, 2) := by decide +kernel
theorem dL_law_331 : decode cL_law 331 = .ok (.iconst 1, 1) := by decide +kernel
theorem dL_law_332 : decode cL_law 332 = .ok (.iadd, 1) := by decide +kernel
theorem dL_law_333 : decode cL_law 333 = .ok (.iaload, 1) := by decide +kernel
theorem dL_law_334 : decode cL_law 334 = .ok (.aload_n 0, 1) := by decide +kernel
theorem dL_law_335 : decode cL_law 335 = .ok (.iload 4, 2) := by decide +kernel
theorem dL_law_337 : decode cL_law 337 = .ok (.iconst 2, 1) := by decide +kernel
theorem dL_law_338 : decode cL_law 338 = .ok (.iadd, 1) := by decide +kernel
theorem dL_law_339 : decode cL_law 339 = .ok (.iaload, 1) := by decide +kernel
theorem dL_law_340 : decode cL_law 340 = .ok (.aload_n 3, 1) := by decide +kernel
theorem dL_law_341 : decode cL_law 341 = .ok (.invokestatic 104, 3) := by decide +kernel
theorem dL_law_344 : decode cL_law 344 = .ok (.istore 5, 2) := by decide +kernel
theorem dL_law_346 : decode cL_law 346 = .ok (.aload_n 2, 1) := by decide +kernel
theorem dL_law_347 : decode cL_law 347 = .ok (.aload_n 0, 1) := by decide +kernel
theorem dL_law_348 : decode cL_law 348 = .ok (.iload 4, 2) := by decide +kernel
theorem dL_law_350 : decode cL_law 350 = .ok (.iconst 1, 1) := by decide +kernel
theorem dL_law_351 : decode cL_law 351 = .ok (.iadd, 1) := by decide +kernel
theorem dL_law_352 : decode cL_law 352 = .ok (.iaload, 1) := by decide +kernel
theorem dL_law_353 : decode cL_law 353 = .ok (.aload_n 0, 1) := by decide +kernel
theorem dL_law_354 : decode cL_law 354 = .ok (.iload 4, 2) := by decide +kernel
theorem dL_law_356 : decode cL_law 356 = .ok (.iconst 2, 1) := by decide +kernel
theorem dL_law_357 : decode cL_law 357 = .ok (.iadd, 1) := by decide +kernel
theorem dL_law_358 : decode cL_law 358 = .ok (.iaload, 1) := by decide +kernel
theorem dL_law_359 : decode cL_law 359 = .ok (.invokevirtual 106, 3) := by decide +kernel
theorem dL_law_362 : decode cL_law 362 = .ok (.istore 6, 2) := by decide +kernel
theorem dL_law_364 : decode cL_law 364 = .ok (.aload_n 2, 1) := by decide +kernel
theorem dL_law_365 : decode cL_law 365 = .ok (.invokevirtual 93, 3) := by decide +kernel
theorem dL_law_368 : decode cL_law 368 = .ok (.iload 5, 2) := by decide +kernel
theorem dL_law_370 : decode cL_law 370 = .ok (.if_icmp .eq 5, 3) := by decide +kernel
theorem dL_law_373 : decode cL_law 373 = .ok (.iconst 0, 1) := by decide +kernel
theorem dL_law_374 : decode cL_law 374 = .ok (.ireturn, 1) := by decide +kernel
theorem dL_law_375 : decode cL_law 375 = .ok (.iload 5, 2) := by decide +kernel
theorem dL_law_377 : decode cL_law 377 = .ok (.ifCond .ne 15, 3) := by decide +kernel
theorem dL_law_380 : decode cL_law 380 = .ok (.aload_n 3, 1) := by decide +kernel
theorem dL_law_381 : decode cL_law 381 = .ok (.iconst 0, 1) := by decide +kernel
theorem dL_law_382 : decode cL_law 382 = .ok (.laload, 1) := by decide +kernel
theorem dL_law_383 : decode cL_law 383 = .ok (.iload 6, 2) := by decide +kernel
theorem dL_law_385 : decode cL_law 385 = .ok (.i2l, 1) := by decide +kernel
theorem dL_law_386 : decode cL_law 386 = .ok (.lcmp, 1) := by decide +kernel
theorem dL_law_387 : decode cL_law 387 = .ok (.ifCond .eq 5, 3) := by decide +kernel
theorem dL_law_390 : decode cL_law 390 = .ok (.iconst 0, 1) := by decide +kernel
theorem dL_law_391 : decode cL_law 391 = .ok (.ireturn, 1) := by decide +kernel
theorem dL_law_392 : decode cL_law 392 = .ok (.goto 1207, 3) := by decide +kernel
theorem dL_law_395 : decode cL_law 395 = .ok (.aload_n 1, 1) := by decide +kernel
theorem dL_law_396 : decode cL_law 396 = .ok (.aload_n 0, 1) := by decide +kernel
theorem dL_law_397 : decode cL_law 397 = .ok (.iload 4, 2) := by decide +kernel
theorem dL_law_399 : decode cL_law 399 = .ok (.iconst 1, 1) := by decide +kernel
theorem dL_law_400 : decode cL_law 400 = .ok (.iadd, 1) := by decide +kernel
theorem dL_law_401 : decode cL_law 401 = .ok (.iaload, 1) := by decide +kernel
theorem dL_law_402 : decode cL_law 402 = .ok (.aload_n 3, 1) := by decide +kernel
theorem dL_law_403 : decode cL_law 403 = .ok (.invokestatic 107, 3) := by decide +kernel
theorem dL_law_406 : decode cL_law 406 = .ok (.istore 5, 2) := by decide +kernel
theorem dL_law_408 : decode cL_law 408 = .ok (.aload_n 2, 1) := by decide +kernel
theorem dL_law_409 : decode cL_law 409 = .ok (.aload_n 0, 1) := by decide +kernel
theorem dL_law_410 : decode cL_law 410 = .ok (.iload 4, 2) := by decide +kernel
theorem dL_law_412 : decode cL_law 412 = .ok (.iconst 1, 1) := by decide +kernel
theorem dL_law_413 : decode cL_law 413 = .ok (.iadd, 1) := by decide +kernel
theorem dL_law_414 : decode cL_law 414 = .ok (.iaload, 1) := by decide +kernel
theorem dL_law_415 : decode cL_law 415 = .ok (.invokevirtual 109, 3) := by decide +kernel
theorem dL_law_418 : decode cL_law 418 = .ok (.istore 6, 2) := by decide +kernel
theorem dL_law_420 : decode cL_law 420 = .ok (.aload_n 2, 1) := by decide +kernel
theorem dL_law_421 : decode cL_law 421 = .ok (.invokevirtual 93, 3) := by decide +kernel
theorem dL_law_424 : decode cL_law 424 = .ok (.iload 5, 2) := by decide +kernel
theorem dL_law_426 : decode cL_law 426 = .ok (.if_icmp .eq 5, 3) := by decide +kernel
theorem dL_law_429 : decode cL_law 429 = .ok (.iconst 0, 1) := by decide +kernel
theorem dL_law_430 : decode cL_law 430 = .ok (.ireturn, 1) := by decide +kernel
theorem dL_law_431 : decode cL_law 431 = .ok (.iload 5, 2) := by decide +kernel
theorem dL_law_433 : decode cL_law 433 = .ok (.ifCond .ne 15, 3) := by decide +kernel
theorem dL_law_436 : decode cL_law 436 = .ok (.aload_n 3, 1) := by decide +kernel
theorem dL_law_437 : decode cL_law 437 = .ok (.iconst 0, 1) := by decide +kernel
theorem dL_law_438 : decode cL_law 438 = .ok (.laload, 1) := by decide +kernel
theorem dL_law_439 : decode cL_law 439 = .ok (.iload 6, 2) := by decide +kernel
theorem dL_law_441 : decode cL_law 441 = .ok (.i2l, 1) := by decide +kernel
theorem dL_law_442 : decode cL_law 442 = .ok (.lcmp, 1) := by decide +kernel
theorem dL_law_443 : decode cL_law 443 = .ok (.ifCond .eq 5, 3) := by decide +kernel
theorem dL_law_446 : decode cL_law 446 = .ok (.iconst 0, 1) := by decide +kernel
theorem dL_law_447 : decode cL_law 447 = .ok (.ireturn, 1) := by decide +kernel
theorem dL_law_448 : decode cL_law 448 = .ok (.goto 1151, 3) := by decide +kernel
theorem dL_law_451 : decode cL_law 451 = .ok (.aload_n 1, 1) := by decide +kernel
theorem dL_law_452 : decode cL_law 452 = .ok (.aload_n 0, 1) := by decide +kernel
theorem dL_law_453 : decode cL_law 453 = .ok (.iload 4, 2) := by decide +kernel
theorem dL_law_455 : decode cL_law 455 = .ok (.iconst 1, 1) := by decide +kernel
theorem dL_law_456 : decode cL_law 456 = .ok (.iadd, 1) := by decide +kernel
theorem dL_law_457 : decode cL_law 457 = .ok (.iaload, 1) := by decide +kernel
theorem dL_law_458 : decode cL_law 458 = .ok (.aload_n 0, 1) := by decide +kernel
theorem dL_law_459 : decode cL_law 459 = .ok (.iload 4, 2) := by decide +kernel
theorem dL_law_461 : decode cL_law 461 = .ok (.iconst 2, 1) := by decide +kernel
theorem dL_law_462 : decode cL_law 462 = .ok (.iadd, 1) := by decide +kernel
theorem dL_law_463 : decode cL_law 463 = .ok (.iaload, 1) := by decide +kernel
theorem dL_law_464 : decode cL_law 464 = .ok (.aload_n 0, 1) := by decide +kernel
theorem dL_law_465 : decode cL_law 465 = .ok (.iload 4, 2) := by decide +kernel
theorem dL_law_467 : decode cL_law 467 = .ok (.iconst 3, 1) := by decide +kernel
theorem dL_law_468 : decode cL_law 468 = .ok (.iadd, 1) := by decide +kernel
theorem dL_law_469 : decode cL_law 469 = .ok (.iaload, 1) := by decide +kernel
theorem dL_law_470 : decode cL_law 470 = .ok (.ifCond .eq 7, 3) := by decide +kernel
theorem dL_law_473 : decode cL_law 473 = .ok (.iconst 1, 1) := by decide +kernel
theorem dL_law_474 : decode cL_law 474 = .ok (.goto 4, 3) := by decide +kernel
theorem dL_law_477 : decode cL_law 477 = .ok (.iconst 0, 1) := by decide +kernel
theorem dL_law_478 : decode cL_law 478 = .ok (.aload_n 0, 1) := by decide +kernel
theorem dL_law_479 : decode cL_law 479 = .ok (.iload 4, 2) := by decide +kernel
theorem dL_law_481 : decode cL_law 481 = .ok (.iconst 4, 1) := by decide +kernel
theorem dL_law_482 : decode cL_law 482 = .ok (.iadd, 1) := by decide +kernel
theorem dL_law_483 : decode cL_law 483 = .ok (.iaload, 1) := by decide +kernel
theorem dL_law_484 : decode cL_law 484 = .ok (.aload_n 0, 1) := by decide +kernel
theorem dL_law_485 : decode cL_law 485 = .ok (.iload 4, 2) := by decide +kernel
theorem dL_law_487 : decode cL_law 487 = .ok (.iconst 5, 1) := by decide +kernel
theorem dL_law_488 : decode cL_law 488 = .ok (.iadd, 1) := by decide +kernel
theorem dL_law_489 : decode cL_law 489 = .ok (.iaload, 1) := by decide +kernel
theorem dL_law_490 : decode cL_law 490 = .ok (.aload_n 0, 1) := by decide +kernel
theorem dL_law_491 : decode cL_law 491 = .ok (.iload 4, 2) := by decide +kernel
theorem dL_law_493 : decode cL_law 493 = .ok (.bipush 6, 2) := by decide +kernel
theorem dL_law_495 : decode cL_law 495 = .ok (.iadd, 1) := by decide +kernel
theorem dL_law_496 : decode cL_law 496 = .ok (.iaload, 1) := by decide +kernel
theorem dL_law_497 : decode cL_law 497 = .ok (.aload_n 0, 1) := by decide +kernel
theorem dL_law_498 : decode cL_law 498 = .ok (.iload 4, 2) := by decide +kernel
theorem dL_law_500 : decode cL_law 500 = .ok (.bipush 7, 2) := by decide +kernel
theorem dL_law_502 : decode cL_law 502 = .ok (.iadd, 1) := by decide +kernel
theorem dL_law_503 : decode cL_law 503 = .ok (.iaload, 1) := by decide +kernel
theorem dL_law_504 : decode cL_law 504 = .ok (.aload_n 3, 1) := by decide +kernel
theorem dL_law_505 : decode cL_law 505 = .ok (.invokestatic 110, 3) := by decide +kernel
theorem dL_law_508 : decode cL_law 508 = .ok (.istore 5, 2) := by decide +kernel
theorem dL_law_510 : decode cL_law 510 = .ok (.aload_n 2, 1) := by decide +kernel
theorem dL_law_511 : decode cL_law 511 = .ok (.aload_n 0, 1) := by decide +kernel
theorem dL_law_512 : decode cL_law 512 = .ok (.iload 4, 2) := by decide +kernel
theorem dL_law_514 : decode cL_law 514 = .ok (.iconst 1, 1) := by decide +kernel
theorem dL_law_515 : decode cL_law 515 = .ok (.iadd, 1) := by decide +kernel
theorem dL_law_516 : decode cL_law 516 = .ok (.iaload, 1) := by decide +kernel
theorem dL_law_517 : decode cL_law 517 = .ok (.aload_n 0, 1) := by decide +kernel
theorem dL_law_518 : decode cL_law 518 = .ok (.iload 4, 2) := by decide +kernel
theorem dL_law_520 : decode cL_law 520 = .ok (.iconst 2, 1) := by decide +kernel
theorem dL_law_521 : decode cL_law 521 = .ok (.iadd, 1) := by decide +kernel
theorem dL_law_522 : decode cL_law 522 = .ok (.iaload, 1) := by decide +kernel
theorem dL_law_523 : decode cL_law 523 = .ok (.aload_n 0, 1) := by decide +kernel
theorem dL_law_524 : decode cL_law 524 = .ok (.iload 4, 2) := by decide +kernel
theorem dL_law_526 : decode cL_law 526 = .ok (.iconst 3, 1) := by decide +kernel
theorem dL_law_527 : decode cL_law 527 = .ok (.iadd, 1) := by decide +kernel
theorem dL_law_528 : decode cL_law 528 = .ok (.iaload, 1) := by decide +kernel
theorem dL_law_529 : decode cL_law 529 = .ok (.ifCond .eq 7, 3) := by decide +kernel
theorem dL_law_532 : decode cL_law 532 = .ok (.iconst 1, 1) := by decide +kernel
theorem dL_law_533 : decode cL_law 533 = .ok (.goto 4, 3) := by decide +kernel
theorem dL_law_536 : decode cL_law 536 = .ok (.iconst 0, 1) := by decide +kernel
theorem dL_law_537 : decode cL_law 537 = .ok (.aload_n 0, 1) := by decide +kernel
theorem dL_law_538 : decode cL_law 538 = .ok (.iload 4, 2) := by decide +kernel
theorem dL_law_540 : decode cL_law 540 = .ok (.iconst 4, 1) := by decide +kernel
theorem dL_law_541 : decode cL_law 541 = .ok (.iadd, 1) := by decide +kernel
theorem dL_law_542 : decode cL_law 542 = .ok (.iaload, 1) := by decide +kernel
theorem dL_law_543 : decode cL_law 543 = .ok (.aload_n 0, 1) := by decide +kernel
theorem dL_law_544 : decode cL_law 544 = .ok (.iload 4, 2) := by decide +kernel
theorem dL_law_546 : decode cL_law 546 = .ok (.iconst 5, 1) := by decide +kernel
theorem dL_law_547 : decode cL_law 547 = .ok (.iadd, 1) := by decide +kernel
theorem dL_law_548 : decode cL_law 548 = .ok (.iaload, 1) := by decide +kernel
theorem dL_law_549 : decode cL_law 549 = .ok (.aload_n 0, 1) := by decide +kernel
theorem dL_law_550 : decode cL_law 550 = .ok (.iload 4, 2) := by decide +kernel
theorem dL_law_552 : decode cL_law 552 = .ok (.bipush 6, 2) := by decide +kernel
theorem dL_law_554 : decode cL_law 554 = .ok (.iadd, 1) := by decide +kernel
theorem dL_law_555 : decode cL_law 555 = .ok (.iaload, 1) := by decide +kernel
theorem dL_law_556 : decode cL_law 556 = .ok (.aload_n 0, 1) := by decide +kernel
theorem dL_law_557 : decode cL_law 557 = .ok (.iload 4, 2) := by decide +kernel
theorem dL_law_559 : decode cL_law 559 = .ok (.bipush 7, 2) := by decide +kernel
theorem dL_law_561 : decode cL_law 561 = .ok (.iadd, 1) := by decide +kernel
theorem dL_law_562 : decode cL_law 562 = .ok (.iaload, 1) := by decide +kernel
theorem dL_law_563 : decode cL_law 563 = .ok (.invokevirtual 113, 3) := by decide +kernel
theorem dL_law_566 : decode cL_law 566 = .ok (.istore 6, 2) := by decide +kernel
theorem dL_law_568 : decode cL_law 568 = .ok (.aload_n 2, 1) := by decide +kernel
theorem dL_law_569 : decode cL_law 569 = .ok (.invokevirtual 93, 3) := by decide +kernel
theorem dL_law_572 : decode cL_law 572 = .ok (.iload 5, 2) := by decide +kernel
theorem dL_law_574 : decode cL_law 574 = .ok (.if_icmp .eq 5, 3) := by decide +kernel
theorem dL_law_577 : decode cL_law 577 = .ok (.iconst 0, 1) := by decide +kernel
theorem dL_law_578 : decode cL_law 578 = .ok (.ireturn, 1) := by decide +kernel
theorem dL_law_579 : decode cL_law 579 = .ok (.iload 5, 2) := by decide +kernel
theorem dL_law_581 : decode cL_law 581 = .ok (.ifCond .ne 15, 3) := by decide +kernel
theorem dL_law_584 : decode cL_law 584 = .ok (.aload_n 3, 1) := by decide +kernel
theorem dL_law_585 : decode cL_law 585 = .ok (.iconst 0, 1) := by decide +kernel
theorem dL_law_586 : decode cL_law 586 = .ok (.laload, 1) := by decide +kernel
theorem dL_law_587 : decode cL_law 587 = .ok (.iload 6, 2) := by decide +kernel
theorem dL_law_589 : decode cL_law 589 = .ok (.i2l, 1) := by decide +kernel
theorem dL_law_590 : decode cL_law 590 = .ok (.lcmp, 1) := by decide +kernel
theorem dL_law_591 : decode cL_law 591 = .ok (.ifCond .eq 5, 3) := by decide +kernel
theorem dL_law_594 : decode cL_law 594 = .ok (.iconst 0, 1) := by decide +kernel
theorem dL_law_595 : decode cL_law 595 = .ok (.ireturn, 1) := by decide +kernel
theorem dL_law_596 : decode cL_law 596 = .ok (.goto 1003, 3) := by decide +kernel
theorem dL_law_599 : decode cL_law 599 = .ok (.aload_n 1, 1) := by decide +kernel
theorem dL_law_600 : decode cL_law 600 = .ok (.aload_n 0, 1) := by decide +kernel
theorem dL_law_601 : decode cL_law 601 = .ok (.iload 4, 2) := by decide +kernel
theorem dL_law_603 : decode cL_law 603 = .ok (.iconst 1, 1) := by decide +kernel
theorem dL_law_604 : decode cL_law 604 = .ok (.iadd, 1) := by decide +kernel
theorem dL_law_605 : decode cL_law 605 = .ok (.iaload, 1) := by decide +kernel
theorem dL_law_606 : decode cL_law 606 = .ok (.aload_n 0, 1) := by decide +kernel
theorem dL_law_607 : decode cL_law 607 = .ok (.iload 4, 2) := by decide +kernel
theorem dL_law_609 : decode cL_law 609 = .ok (.iconst 2, 1) := by decide +kernel
theorem dL_law_610 : decode cL_law 610 = .ok (.iadd, 1) := by decide +kernel
theorem dL_law_611 : decode cL_law 611 = .ok (.iaload, 1) := by decide +kernel
theorem dL_law_612 : decode cL_law 612 = .ok (.aload_n 0, 1) := by decide +kernel
theorem dL_law_613 : decode cL_law 613 = .ok (.iload 4, 2) := by decide +kernel
theorem dL_law_615 : decode cL_law 615 = .ok (.iconst 3, 1) := by decide +kernel
end
section
theorem dL_law_616 : decode cL_law 616 = .ok (.iadd, 1) := by decide +kernel
theorem dL_law_617 : decode cL_law 617 = .ok (.iaload, 1) := by decide +kernel
theorem dL_law_618 : decode cL_law 618 = .ok (.aload_n 0, 1) := by decide +kernel
theorem dL_law_619 : decode cL_law 619 = .ok (.iload 4, 2) := by decide +kernel
theorem dL_law_621 : decode cL_law 621 = .ok (.iconst 4, 1) := by decide +kernel
theorem dL_law_622 : decode cL_law 622 = .ok (.iadd, 1) := by decide +kernel
theorem dL_law_623 : decode cL_law 623 = .ok (.iaload, 1) := by decide +kernel
theorem dL_law_624 : decode cL_law 624 = .ok (.invokestatic 114, 3) := by decide +kernel
theorem dL_law_627 : decode cL_law 627 = .ok (.istore 5, 2) := by decide +kernel
theorem dL_law_629 : decode cL_law 629 = .ok (.aload_n 2, 1) := by decide +kernel
theorem dL_law_630 : decode cL_law 630 = .ok (.aload_n 0, 1) := by decide +kernel
theorem dL_law_631 : decode cL_law 631 = .ok (.iload 4, 2) := by decide +kernel
theorem dL_law_633 : decode cL_law 633 = .ok (.iconst 1, 1) := by decide +kernel
theorem dL_law_634 : decode cL_law 634 = .ok (.iadd, 1) := by decide +kernel
theorem dL_law_635 : decode cL_law 635 = .ok (.iaload, 1) := by decide +kernel
theorem dL_law_636 : decode cL_law 636 = .ok (.aload_n 0, 1) := by decide +kernel
theorem dL_law_637 : decode cL_law 637 = .ok (.iload 4, 2) := by decide +kernel
theorem dL_law_639 : decode cL_law 639 = .ok (.iconst 2, 1) := by decide +kernel
theorem dL_law_640 : decode cL_law 640 = .ok (.iadd, 1) := by decide +kernel
theorem dL_law_641 : decode cL_law 641 = .ok (.iaload, 1) := by decide +kernel
theorem dL_law_642 : decode cL_law 642 = .ok (.aload_n 0, 1) := by decide +kernel
theorem dL_law_643 : decode cL_law 643 = .ok (.iload 4, 2) := by decide +kernel
theorem dL_law_645 : decode cL_law 645 = .ok (.iconst 3, 1) := by decide +kernel
theorem dL_law_646 : decode cL_law 646 = .ok (.iadd, 1) := by decide +kernel
theorem dL_law_647 : decode cL_law 647 = .ok (.iaload, 1) := by decide +kernel
theorem dL_law_648 : decode cL_law 648 = .ok (.aload_n 0, 1) := by decide +kernel
theorem dL_law_649 : decode cL_law 649 = .ok (.iload 4, 2) := by decide +kernel
theorem dL_law_651 : decode cL_law 651 = .ok (.iconst 4, 1) := by decide +kernel
theorem dL_law_652 : decode cL_law 652 = .ok (.iadd, 1) := by decide +kernel
theorem dL_law_653 : decode cL_law 653 = .ok (.iaload, 1) := by decide +kernel
theorem dL_law_654 : decode cL_law 654 = .ok (.invokevirtual 117, 3) := by decide +kernel
theorem dL_law_657 : decode cL_law 657 = .ok (.aload_n 2, 1) := by decide +kernel
theorem dL_law_658 : decode cL_law 658 = .ok (.invokevirtual 93, 3) := by decide +kernel
theorem dL_law_661 : decode cL_law 661 = .ok (.iload 5, 2) := by decide +kernel
theorem dL_law_663 : decode cL_law 663 = .ok (.if_icmp .eq 5, 3) := by decide +kernel
theorem dL_law_666 : decode cL_law 666 = .ok (.iconst 0, 1) := by decide +kernel
theorem dL_law_667 : decode cL_law 667 = .ok (.ireturn, 1) := by decide +kernel
theorem dL_law_668 : decode cL_law 668 = .ok (.goto 931, 3) := by decide +kernel
theorem dL_law_671 : decode cL_law 671 = .ok (.aload_n 1, 1) := by decide +kernel
theorem dL_law_672 : decode cL_law 672 = .ok (.aload_n 0, 1) := by decide +kernel
theorem dL_law_673 : decode cL_law 673 = .ok (.iload 4, 2) := by decide +kernel
theorem dL_law_675 : decode cL_law 675 = .ok (.iconst 1, 1) := by decide +kernel
theorem dL_law_676 : decode cL_law 676 = .ok (.iadd, 1) := by decide +kernel
theorem dL_law_677 : decode cL_law 677 = .ok (.iaload, 1) := by decide +kernel
theorem dL_law_678 : decode cL_law 678 = .ok (.aload_n 0, 1) := by decide +kernel
theorem dL_law_679 : decode cL_law 679 = .ok (.iload 4, 2) := by decide +kernel
theorem dL_law_681 : decode cL_law 681 = .ok (.iconst 2, 1) := by decide +kernel
theorem dL_law_682 : decode cL_law 682 = .ok (.iadd, 1) := by decide +kernel
theorem dL_law_683 : decode cL_law 683 = .ok (.iaload, 1) := by decide +kernel
theorem dL_law_684 : decode cL_law 684 = .ok (.aload_n 0, 1) := by decide +kernel
theorem dL_law_685 : decode cL_law 685 = .ok (.iload 4, 2) := by decide +kernel
theorem dL_law_687 : decode cL_law 687 = .ok (.iconst 3, 1) := by decide +kernel
theorem dL_law_688 : decode cL_law 688 = .ok (.iadd, 1) := by decide +kernel
theorem dL_law_689 : decode cL_law 689 = .ok (.iaload, 1) := by decide +kernel
theorem dL_law_690 : decode cL_law 690 = .ok (.aload_n 3, 1) := by decide +kernel
theorem dL_law_691 : decode cL_law 691 = .ok (.invokestatic 118, 3) := by decide +kernel
theorem dL_law_694 : decode cL_law 694 = .ok (.istore 5, 2) := by decide +kernel
theorem dL_law_696 : decode cL_law 696 = .ok (.aload_n 2, 1) := by decide +kernel
theorem dL_law_697 : decode cL_law 697 = .ok (.aload_n 0, 1) := by decide +kernel
theorem dL_law_698 : decode cL_law 698 = .ok (.iload 4, 2) := by decide +kernel
theorem dL_law_700 : decode cL_law 700 = .ok (.iconst 1, 1) := by decide +kernel
theorem dL_law_701 : decode cL_law 701 = .ok (.iadd, 1) := by decide +kernel
theorem dL_law_702 : decode cL_law 702 = .ok (.iaload, 1) := by decide +kernel
theorem dL_law_703 : decode cL_law 703 = .ok (.aload_n 0, 1) := by decide +kernel
theorem dL_law_704 : decode cL_law 704 = .ok (.iload 4, 2) := by decide +kernel
theorem dL_law_706 : decode cL_law 706 = .ok (.iconst 2, 1) := by decide +kernel
theorem dL_law_707 : decode cL_law 707 = .ok (.iadd, 1) := by decide +kernel
theorem dL_law_708 : decode cL_law 708 = .ok (.iaload, 1) := by decide +kernel
theorem dL_law_709 : decode cL_law 709 = .ok (.aload_n 0, 1) := by decide +kernel
theorem dL_law_710 : decode cL_law 710 = .ok (.iload 4, 2) := by decide +kernel
theorem dL_law_712 : decode cL_law 712 = .ok (.iconst 3, 1) := by decide +kernel
theorem dL_law_713 : decode cL_law 713 = .ok (.iadd, 1) := by decide +kernel
theorem dL_law_714 : decode cL_law 714 = .ok (.iaload, 1) := by decide +kernel
theorem dL_law_715 : decode cL_law 715 = .ok (.invokevirtual 121, 3) := by decide +kernel
theorem dL_law_718 : decode cL_law 718 = .ok (.istore 6, 2) := by decide +kernel
theorem dL_law_720 : decode cL_law 720 = .ok (.aload_n 2, 1) := by decide +kernel
theorem dL_law_721 : decode cL_law 721 = .ok (.invokevirtual 93, 3) := by decide +kernel
theorem dL_law_724 : decode cL_law 724 = .ok (.iload 5, 2) := by decide +kernel
theorem dL_law_726 : decode cL_law 726 = .ok (.if_icmp .eq 5, 3) := by decide +kernel
theorem dL_law_729 : decode cL_law 729 = .ok (.iconst 0, 1) := by decide +kernel
theorem dL_law_730 : decode cL_law 730 = .ok (.ireturn, 1) := by decide +kernel
theorem dL_law_731 : decode cL_law 731 = .ok (.iload 5, 2) := by decide +kernel
theorem dL_law_733 : decode cL_law 733 = .ok (.ifCond .ne 15, 3) := by decide +kernel
theorem dL_law_736 : decode cL_law 736 = .ok (.aload_n 3, 1) := by decide +kernel
theorem dL_law_737 : decode cL_law 737 = .ok (.iconst 0, 1) := by decide +kernel
theorem dL_law_738 : decode cL_law 738 = .ok (.laload, 1) := by decide +kernel
theorem dL_law_739 : decode cL_law 739 = .ok (.iload 6, 2) := by decide +kernel
theorem dL_law_741 : decode cL_law 741 = .ok (.i2l, 1) := by decide +kernel
theorem dL_law_742 : decode cL_law 742 = .ok (.lcmp, 1) := by decide +kernel
theorem dL_law_743 : decode cL_law 743 = .ok (.ifCond .eq 5, 3) := by decide +kernel
theorem dL_law_746 : decode cL_law 746 = .ok (.iconst 0, 1) := by decide +kernel
theorem dL_law_747 : decode cL_law 747 = .ok (.ireturn, 1) := by decide +kernel
theorem dL_law_748 : decode cL_law 748 = .ok (.goto 851, 3) := by decide +kernel
theorem dL_law_751 : decode cL_law 751 = .ok (.aload_n 1, 1) := by decide +kernel
theorem dL_law_752 : decode cL_law 752 = .ok (.aload_n 0, 1) := by decide +kernel
theorem dL_law_753 : decode cL_law 753 = .ok (.iload 4, 2) := by decide +kernel
theorem dL_law_755 : decode cL_law 755 = .ok (.iconst 1, 1) := by decide +kernel
theorem dL_law_756 : decode cL_law 756 = .ok (.iadd, 1) := by decide +kernel
theorem dL_law_757 : decode cL_law 757 = .ok (.iaload, 1) := by decide +kernel
theorem dL_law_758 : decode cL_law 758 = .ok (.aload_n 0, 1) := by decide +kernel
theorem dL_law_759 : decode cL_law 759 = .ok (.iload 4, 2) := by decide +kernel
theorem dL_law_761 : decode cL_law 761 = .ok (.iconst 2, 1) := by decide +kernel
theorem dL_law_762 : decode cL_law 762 = .ok (.iadd, 1) := by decide +kernel
theorem dL_law_763 : decode cL_law 763 = .ok (.iaload, 1) := by decide +kernel
theorem dL_law_764 : decode cL_law 764 = .ok (.aload_n 0, 1) := by decide +kernel
theorem dL_law_765 : decode cL_law 765 = .ok (.iload 4, 2) := by decide +kernel
theorem dL_law_767 : decode cL_law 767 = .ok (.iconst 3, 1) := by decide +kernel
theorem dL_law_768 : decode cL_law 768 = .ok (.iadd, 1) := by decide +kernel
theorem dL_law_769 : decode cL_law 769 = .ok (.iaload, 1) := by decide +kernel
theorem dL_law_770 : decode cL_law 770 = .ok (.aload_n 3, 1) := by decide +kernel
theorem dL_law_771 : decode cL_law 771 = .ok (.invokestatic 122, 3) := by decide +kernel
theorem dL_law_774 : decode cL_law 774 = .ok (.istore 5, 2) := by decide +kernel
theorem dL_law_776 : decode cL_law 776 = .ok (.aload_n 2, 1) := by decide +kernel
theorem dL_law_777 : decode cL_law 777 = .ok (.aload_n 0, 1) := by decide +kernel
theorem dL_law_778 : decode cL_law 778 = .ok (.iload 4, 2) := by decide +kernel
theorem dL_law_780 : decode cL_law 780 = .ok (.iconst 1, 1) := by decide +kernel
theorem dL_law_781 : decode cL_law 781 = .ok (.iadd, 1) := by decide +kernel
theorem dL_law_782 : decode cL_law 782 = .ok (.iaload, 1) := by decide +kernel
theorem dL_law_783 : decode cL_law 783 = .ok (.aload_n 0, 1) := by decide +kernel
theorem dL_law_784 : decode cL_law 784 = .ok (.iload 4, 2) := by decide +kernel
theorem dL_law_786 : decode cL_law 786 = .ok (.iconst 2, 1) := by decide +kernel
theorem dL_law_787 : decode cL_law 787 = .ok (.iadd, 1) := by decide +kernel
theorem dL_law_788 : decode cL_law 788 = .ok (.iaload, 1) := by decide +kernel
theorem dL_law_789 : decode cL_law 789 = .ok (.aload_n 0, 1) := by decide +kernel
theorem dL_law_790 : decode cL_law 790 = .ok (.iload 4, 2) := by decide +kernel
theorem dL_law_792 : decode cL_law 792 = .ok (.iconst 3, 1) := by decide +kernel
theorem dL_law_793 : decode cL_law 793 = .ok (.iadd, 1) := by decide +kernel
theorem dL_law_794 : decode cL_law 794 = .ok (.iaload, 1) := by decide +kernel
theorem dL_law_795 : decode cL_law 795 = .ok (.invokevirtual 124, 3) := by decide +kernel
theorem dL_law_798 : decode cL_law 798 = .ok (.istore 6, 2) := by decide +kernel
theorem dL_law_800 : decode cL_law 800 = .ok (.aload_n 2, 1) := by decide +kernel
theorem dL_law_801 : decode cL_law 801 = .ok (.invokevirtual 93, 3) := by decide +kernel
theorem dL_law_804 : decode cL_law 804 = .ok (.iload 5, 2) := by decide +kernel
theorem dL_law_806 : decode cL_law 806 = .ok (.if_icmp .eq 5, 3) := by decide +kernel
theorem dL_law_809 : decode cL_law 809 = .ok (.iconst 0, 1) := by decide +kernel
theorem dL_law_810 : decode cL_law 810 = .ok (.ireturn, 1) := by decide +kernel
theorem dL_law_811 : decode cL_law 811 = .ok (.iload 5, 2) := by decide +kernel
theorem dL_law_813 : decode cL_law 813 = .ok (.ifCond .ne 15, 3) := by decide +kernel
theorem dL_law_816 : decode cL_law 816 = .ok (.aload_n 3, 1) := by decide +kernel
theorem dL_law_817 : decode cL_law 817 = .ok (.iconst 0, 1) := by decide +kernel
theorem dL_law_818 : decode cL_law 818 = .ok (.laload, 1) := by decide +kernel
theorem dL_law_819 : decode cL_law 819 = .ok (.iload 6, 2) := by decide +kernel
theorem dL_law_821 : decode cL_law 821 = .ok (.i2l, 1) := by decide +kernel
theorem dL_law_822 : decode cL_law 822 = .ok (.lcmp, 1) := by decide +kernel
theorem dL_law_823 : decode cL_law 823 = .ok (.ifCond .eq 5, 3) := by decide +kernel
theorem dL_law_826 : decode cL_law 826 = .ok (.iconst 0, 1) := by decide +kernel
theorem dL_law_827 : decode cL_law 827 = .ok (.ireturn, 1) := by decide +kernel
theorem dL_law_828 : decode cL_law 828 = .ok (.goto 771, 3) := by decide +kernel
theorem dL_law_831 : decode cL_law 831 = .ok (.aload_n 1, 1) := by decide +kernel
theorem dL_law_832 : decode cL_law 832 = .ok (.aload_n 0, 1) := by decide +kernel
theorem dL_law_833 : decode cL_law 833 = .ok (.iload 4, 2) := by decide +kernel
theorem dL_law_835 : decode cL_law 835 = .ok (.iconst 1, 1) := by decide +kernel
theorem dL_law_836 : decode cL_law 836 = .ok (.iadd, 1) := by decide +kernel
theorem dL_law_837 : decode cL_law 837 = .ok (.iaload, 1) := by decide +kernel
theorem dL_law_838 : decode cL_law 838 = .ok (.aload_n 3, 1) := by decide +kernel
theorem dL_law_839 : decode cL_law 839 = .ok (.invokestatic 125, 3) := by decide +kernel
theorem dL_law_842 : decode cL_law 842 = .ok (.istore 5, 2) := by decide +kernel
theorem dL_law_844 : decode cL_law 844 = .ok (.aload_n 2, 1) := by decide +kernel
theorem dL_law_845 : decode cL_law 845 = .ok (.aload_n 0, 1) := by decide +kernel
theorem dL_law_846 : decode cL_law 846 = .ok (.iload 4, 2) := by decide +kernel
theorem dL_law_848 : decode cL_law 848 = .ok (.iconst 1, 1) := by decide +kernel
theorem dL_law_849 : decode cL_law 849 = .ok (.iadd, 1) := by decide +kernel
theorem dL_law_850 : decode cL_law 850 = .ok (.iaload, 1) := by decide +kernel
theorem dL_law_851 : decode cL_law 851 = .ok (.invokevirtual 127, 3) := by decide +kernel
theorem dL_law_854 : decode cL_law 854 = .ok (.istore 6, 2) := by decide +kernel
theorem dL_law_856 : decode cL_law 856 = .ok (.aload_n 2, 1) := by decide +kernel
theorem dL_law_857 : decode cL_law 857 = .ok (.invokevirtual 93, 3) := by decide +kernel
theorem dL_law_860 : decode cL_law 860 = .ok (.iload 5, 2) := by decide +kernel
theorem dL_law_862 : decode cL_law 862 = .ok (.if_icmp .eq 5, 3) := by decide +kernel
theorem dL_law_865 : decode cL_law 865 = .ok (.iconst 0, 1) := by decide +kernel
theorem dL_law_866 : decode cL_law 866 = .ok (.ireturn, 1) := by decide +kernel
theorem dL_law_867 : decode cL_law 867 = .ok (.iload 5, 2) := by decide +kernel
theorem dL_law_869 : decode cL_law 869 = .ok (.ifCond .ne 15, 3) := by decide +kernel
theorem dL_law_872 : decode cL_law 872 = .ok (.aload_n 3, 1) := by decide +kernel
theorem dL_law_873 : decode cL_law 873 = .ok (.iconst 0, 1) := by decide +kernel
theorem dL_law_874 : decode cL_law 874 = .ok (.laload, 1) := by decide +kernel
theorem dL_law_875 : decode cL_law 875 = .ok (.iload 6, 2) := by decide +kernel
theorem dL_law_877 : decode cL_law 877 = .ok (.i2l, 1) := by decide +kernel
theorem dL_law_878 : decode cL_law 878 = .ok (.lcmp, 1) := by decide +kernel
theorem dL_law_879 : decode cL_law 879 = .ok (.ifCond .eq 5, 3) := by decide +kernel
theorem dL_law_882 : decode cL_law 882 = .ok (.iconst 0, 1) := by decide +kernel
theorem dL_law_883 : decode cL_law 883 = .ok (.ireturn, 1) := by decide +kernel
theorem dL_law_884 : decode cL_law 884 = .ok (.goto 715, 3) := by decide +kernel
theorem dL_law_887 : decode cL_law 887 = .ok (.aload_n 1, 1) := by decide +kernel
theorem dL_law_888 : decode cL_law 888 = .ok (.invokevirtual 128, 3) := by decide +kernel
theorem dL_law_891 : decode cL_law 891 = .ok (.aload_n 2, 1) := by decide +kernel
theorem dL_law_892 : decode cL_law 892 = .ok (.invokevirtual 131, 3) := by decide +kernel
theorem dL_law_895 : decode cL_law 895 = .ok (.if_icmp .eq 704, 3) := by decide +kernel
theorem dL_law_898 : decode cL_law 898 = .ok (.iconst 0, 1) := by decide +kernel
theorem dL_law_899 : decode cL_law 899 = .ok (.ireturn, 1) := by decide +kernel
theorem dL_law_900 : decode cL_law 900 = .ok (.aload_n 1, 1) := by decide +kernel
theorem dL_law_901 : decode cL_law 901 = .ok (.aload_n 0, 1) := by decide +kernel
theorem dL_law_902 : decode cL_law 902 = .ok (.iload 4, 2) := by decide +kernel
theorem dL_law_904 : decode cL_law 904 = .ok (.iconst 1, 1) := by decide +kernel
theorem dL_law_905 : decode cL_law 905 = .ok (.iadd, 1) := by decide +kernel
theorem dL_law_906 : decode cL_law 906 = .ok (.iaload, 1) := by decide +kernel
theorem dL_law_907 : decode cL_law 907 = .ok (.aload_n 0, 1) := by decide +kernel
theorem dL_law_908 : decode cL_law 908 = .ok (.iload 4, 2) := by decide +kernel
theorem dL_law_910 : decode cL_law 910 = .ok (.iconst 2, 1) := by decide +kernel
theorem dL_law_911 : decode cL_law 911 = .ok (.iadd, 1) := by decide +kernel
theorem dL_law_912 : decode cL_law 912 = .ok (.iaload, 1) := by decide +kernel
theorem dL_law_913 : decode cL_law 913 = .ok (.aload_n 3, 1) := by decide +kernel
theorem dL_law_914 : decode cL_law 914 = .ok (.invokestatic 132, 3) := by decide +kernel
theorem dL_law_917 : decode cL_law 917 = .ok (.istore 5, 2) := by decide +kernel
theorem dL_law_919 : decode cL_law 919 = .ok (.aload_n 2, 1) := by decide +kernel
theorem dL_law_920 : decode cL_law 920 = .ok (.aload_n 0, 1) := by decide +kernel
theorem dL_law_921 : decode cL_law 921 = .ok (.iload 4, 2) := by decide +kernel
theorem dL_law_923 : decode cL_law 923 = .ok (.iconst 1, 1) := by decide +kernel
theorem dL_law_924 : decode cL_law 924 = .ok (.iadd, 1) := by decide +kernel
theorem dL_law_925 : decode cL_law 925 = .ok (.iaload, 1) := by decide +kernel
theorem dL_law_926 : decode cL_law 926 = .ok (.aload_n 0, 1) := by decide +kernel
theorem dL_law_927 : decode cL_law 927 = .ok (.iload 4, 2) := by decide +kernel
theorem dL_law_929 : decode cL_law 929 = .ok (.iconst 2, 1) := by decide +kernel
theorem dL_law_930 : decode cL_law 930 = .ok (.iadd, 1) := by decide +kernel
theorem dL_law_931 : decode cL_law 931 = .ok (.iaload, 1) := by decide +kernel
theorem dL_law_932 : decode cL_law 932 = .ok (.invokevirtual 134, 3) := by decide +kernel
theorem dL_law_935 : decode cL_law 935 = .ok (.istore 6, 2) := by decide +kernel
theorem dL_law_937 : decode cL_law 937 = .ok (.aload_n 2, 1) := by decide +kernel
theorem dL_law_938 : decode cL_law 938 = .ok (.invokevirtual 93, 3) := by decide +kernel
theorem dL_law_941 : decode cL_law 941 = .ok (.iload 5, 2) := by decide +kernel
theorem dL_law_943 : decode cL_law 943 = .ok (.if_icmp .eq 5, 3) := by decide +kernel
theorem dL_law_946 : decode cL_law 946 = .ok (.iconst 0, 1) := by decide +kernel
theorem dL_law_947 : decode cL_law 947 = .ok (.ireturn, 1) := by decide +kernel
theorem dL_law_948 : decode cL_law 948 = .ok (.iload 5, 2) := by decide +kernel
theorem dL_law_950 : decode cL_law 950 = .ok (.ifCond .ne 15, 3) := by decide +kernel
theorem dL_law_953 : decode cL_law 953 = .ok (.aload_n 3, 1) := by decide +kernel
theorem dL_law_954 : decode cL_law 954 = .ok (.iconst 0, 1) := by decide +kernel
theorem dL_law_955 : decode cL_law 955 = .ok (.laload, 1) := by decide +kernel
theorem dL_law_956 : decode cL_law 956 = .ok (.iload 6, 2) := by decide +kernel
theorem dL_law_958 : decode cL_law 958 = .ok (.i2l, 1) := by decide +kernel
theorem dL_law_959 : decode cL_law 959 = .ok (.lcmp, 1) := by decide +kernel
theorem dL_law_960 : decode cL_law 960 = .ok (.ifCond .eq 5, 3) := by decide +kernel
theorem dL_law_963 : decode cL_law 963 = .ok (.iconst 0, 1) := by decide +kernel
theorem dL_law_964 : decode cL_law 964 = .ok (.ireturn, 1) := by decide +kernel
theorem dL_law_965 : decode cL_law 965 = .ok (.goto 634, 3) := by decide +kernel
theorem dL_law_968 : decode cL_law 968 = .ok (.aload_n 1, 1) := by decide +kernel
theorem dL_law_969 : decode cL_law 969 = .ok (.aload_n 0, 1) := by decide +kernel
theorem dL_law_970 : decode cL_law 970 = .ok (.iload 4, 2) := by decide +kernel
theorem dL_law_972 : decode cL_law 972 = .ok (.iconst 1, 1) := by decide +kernel
theorem dL_law_973 : decode cL_law 973 = .ok (.iadd, 1) := by decide +kernel
theorem dL_law_974 : decode cL_law 974 = .ok (.iaload, 1) := by decide +kernel
theorem dL_law_975 : decode cL_law 975 = .ok (.aload_n 0, 1) := by decide +kernel
theorem dL_law_976 : decode cL_law 976 = .ok (.iload 4, 2) := by decide +kernel
theorem dL_law_978 : decode cL_law 978 = .ok (.iconst 2, 1) := by decide +kernel
theorem dL_law_979 : decode cL_law 979 = .ok (.iadd, 1) := by decide +kernel
theorem dL_law_980 : decode cL_law 980 = .ok (.iaload, 1) := by decide +kernel
theorem dL_law_981 : decode cL_law 981 = .ok (.aload_n 3, 1) := by decide +kernel
theorem dL_law_982 : decode cL_law 982 = .ok (.invokestatic 135, 3) := by decide +kernel
theorem dL_law_985 : decode cL_law 985 = .ok (.istore 5, 2) := by decide +kernel
theorem dL_law_987 : decode cL_law 987 = .ok (.aload_n 2, 1) := by decide +kernel
theorem dL_law_988 : decode cL_law 988 = .ok (.aload_n 0, 1) := by decide +kernel
theorem dL_law_989 : decode cL_law 989 = .ok (.iload 4, 2) := by decide +kernel
theorem dL_law_991 : decode cL_law 991 = .ok (.iconst 1, 1) := by decide +kernel
theorem dL_law_992 : decode cL_law 992 = .ok (.iadd, 1) := by decide +kernel
theorem dL_law_993 : decode cL_law 993 = .ok (.iaload, 1) := by decide +kernel
theorem dL_law_994 : decode cL_law 994 = .ok (.aload_n 0, 1) := by decide +kernel
theorem dL_law_995 : decode cL_law 995 = .ok (.iload 4, 2) := by decide +kernel
theorem dL_law_997 : decode cL_law 997 = .ok (.iconst 2, 1) := by decide +kernel
theorem dL_law_998 : decode cL_law 998 = .ok (.iadd, 1) := by decide +kernel
theorem dL_law_999 : decode cL_law 999 = .ok (.iaload, 1) := by decide +kernel
theorem dL_law_1000 : decode cL_law 1000 = .ok (.invokevirtual 137, 3) := by decide +kernel
theorem dL_law_1003 : decode cL_law 1003 = .ok (.istore 6, 2) := by decide +kernel
theorem dL_law_1005 : decode cL_law 1005 = .ok (.aload_n 2, 1) := by decide +kernel
theorem dL_law_1006 : decode cL_law 1006 = .ok (.invokevirtual 93, 3) := by decide +kernel
theorem dL_law_1009 : decode cL_law 1009 = .ok (.iload 5, 2) := by decide +kernel
theorem dL_law_1011 : decode cL_law 1011 = .ok (.if_icmp .eq 5, 3) := by decide +kernel
theorem dL_law_1014 : decode cL_law 1014 = .ok (.iconst 0, 1) := by decide +kernel
theorem dL_law_1015 : decode cL_law 1015 = .ok (.ireturn, 1) := by decide +kernel
theorem dL_law_1016 : decode cL_law 1016 = .ok (.iload 5, 2) := by decide +kernel
theorem dL_law_1018 : decode cL_law 1018 = .ok (.ifCond .ne 15, 3) := by decide +kernel
theorem dL_law_1021 : decode cL_law 1021 = .ok (.aload_n 3, 1) := by decide +kernel
theorem dL_law_1022 : decode cL_law 1022 = .ok (.iconst 0, 1) := by decide +kernel
theorem dL_law_1023 : decode cL_law 1023 = .ok (.laload, 1) := by decide +kernel
theorem dL_law_1024 : decode cL_law 1024 = .ok (.iload 6, 2) := by decide +kernel
theorem dL_law_1026 : decode cL_law 1026 = .ok (.i2l, 1) := by decide +kernel
theorem dL_law_1027 : decode cL_law 1027 = .ok (.lcmp, 1) := by decide +kernel
theorem dL_law_1028 : decode cL_law 1028 = .ok (.ifCond .eq 5, 3) := by decide +kernel
theorem dL_law_1031 : decode cL_law 1031 = .ok (.iconst 0, 1) := by decide +kernel
theorem dL_law_1032 : decode cL_law 1032 = .ok (.ireturn, 1) := by decide +kernel
theorem dL_law_1033 : decode cL_law 1033 = .ok (.goto 566, 3) := by decide +kernel
theorem dL_law_1036 : decode cL_law 1036 = .ok (.aload_n 1, 1) := by decide +kernel
theorem dL_law_1037 : decode cL_law 1037 = .ok (.aload_n 0, 1) := by decide +kernel
theorem dL_law_1038 : decode cL_law 1038 = .ok (.iload 4, 2) := by decide +kernel
theorem dL_law_1040 : decode cL_law 1040 = .ok (.iconst 1, 1) := by decide +kernel
theorem dL_law_1041 : decode cL_law 1041 = .ok (.iadd, 1) := by decide +kernel
theorem dL_law_1042 : decode cL_law 1042 = .ok (.iaload, 1) := by decide +kernel
theorem dL_law_1043 : decode cL_law 1043 = .ok (.aload_n 0, 1) := by decide +kernel
theorem dL_law_1044 : decode cL_law 1044 = .ok (.iload 4, 2) := by decide +kernel
theorem dL_law_1046 : decode cL_law 1046 = .ok (.iconst 2, 1) := by decide +kernel
theorem dL_law_1047 : decode cL_law 1047 = .ok (.iadd, 1) := by decide +kernel
theorem dL_law_1048 : decode cL_law 1048 = .ok (.iaload, 1) := by decide +kernel
theorem dL_law_1049 : decode cL_law 1049 = .ok (.aload_n 3, 1) := by decide +kernel
theorem dL_law_1050 : decode cL_law 1050 = .ok (.invokestatic 138, 3) := by decide +kernel
theorem dL_law_1053 : decode cL_law 1053 = .ok (.istore 5, 2) := by decide +kernel
theorem dL_law_1055 : decode cL_law 1055 = .ok (.aload_n 2, 1) := by decide +kernel
theorem dL_law_1056 : decode cL_law 1056 = .ok (.aload_n 0, 1) := by decide +kernel
theorem dL_law_1057 : decode cL_law 1057 = .ok (.iload 4, 2) := by decide +kernel
theorem dL_law_1059 : decode cL_law 1059 = .ok (.iconst 1, 1) := by decide +kernel
theorem dL_law_1060 : decode cL_law 1060 = .ok (.iadd, 1) := by decide +kernel
theorem dL_law_1061 : decode cL_law 1061 = .ok (.iaload, 1) := by decide +kernel
theorem dL_law_1062 : decode cL_law 1062 = .ok (.aload_n 0, 1) := by decide +kernel
theorem dL_law_1063 : decode cL_law 1063 = .ok (.iload 4, 2) := by decide +kernel
theorem dL_law_1065 : decode cL_law 1065 = .ok (.iconst 2, 1) := by decide +kernel
theorem dL_law_1066 : decode cL_law 1066 = .ok (.iadd, 1) := by decide +kernel
theorem dL_law_1067 : decode cL_law 1067 = .ok (.iaload, 1) := by decide +kernel
theorem dL_law_1068 : decode cL_law 1068 = .ok (.invokevirtual 140, 3) := by decide +kernel
theorem dL_law_1071 : decode cL_law 1071 = .ok (.istore 6, 2) := by decide +kernel
theorem dL_law_1073 : decode cL_law 1073 = .ok (.aload_n 2, 1) := by decide +kernel
theorem dL_law_1074 : decode cL_law 1074 = .ok (.invokevirtual 93, 3) := by decide +kernel
theorem dL_law_1077 : decode cL_law 1077 = .ok (.iload 5, 2) := by decide +kernel
theorem dL_law_1079 : decode cL_law 1079 = .ok (.if_icmp .eq 5, 3) := by decide +kernel
theorem dL_law_1082 : decode cL_law 1082 = .ok (.iconst 0, 1) := by decide +kernel
theorem dL_law_1083 : decode cL_law 1083 = .ok (.ireturn, 1) := by decide +kernel
theorem dL_law_1084 : decode cL_law 1084 = .ok (.iload 5, 2) := by decide +kernel
theorem dL_law_1086 : decode cL_law 1086 = .ok (.ifCond .ne 15, 3) := by decide +kernel
theorem dL_law_1089 : decode cL_law 1089 = .ok (.aload_n 3, 1) := by decide +kernel
theorem dL_law_1090 : decode cL_law 1090 = .ok (.iconst 0, 1) := by decide +kernel
theorem dL_law_1091 : decode cL_law 1091 = .ok (.laload, 1) := by decide +kernel
theorem dL_law_1092 : decode cL_law 1092 = .ok (.iload 6, 2) := by decide +kernel
theorem dL_law_1094 : decode cL_law 1094 = .ok (.i2l, 1) := by decide +kernel
theorem dL_law_1095 : decode cL_law 1095 = .ok (.lcmp, 1) := by decide +kernel
theorem dL_law_1096 : decode cL_law 1096 = .ok (.ifCond .eq 5, 3) := by decide +kernel
theorem dL_law_1099 : decode cL_law 1099 = .ok (.iconst 0, 1) := by decide +kernel
theorem dL_law_1100 : decode cL_law 1100 = .ok (.ireturn, 1) := by decide +kernel
theorem dL_law_1101 : decode cL_law 1101 = .ok (.goto 498, 3) := by decide +kernel
theorem dL_law_1104 : decode cL_law 1104 = .ok (.aload_n 1, 1) := by decide +kernel
theorem dL_law_1105 : decode cL_law 1105 = .ok (.aload_n 0, 1) := by decide +kernel
theorem dL_law_1106 : decode cL_law 1106 = .ok (.iload 4, 2) := by decide +kernel
theorem dL_law_1108 : decode cL_law 1108 = .ok (.iconst 1, 1) := by decide +kernel
theorem dL_law_1109 : decode cL_law 1109 = .ok (.iadd, 1) := by decide +kernel
theorem dL_law_1110 : decode cL_law 1110 = .ok (.iaload, 1) := by decide +kernel
theorem dL_law_1111 : decode cL_law 1111 = .ok (.aload_n 0, 1) := by decide +kernel
theorem dL_law_1112 : decode cL_law 1112 = .ok (.iload 4, 2) := by decide +kernel
theorem dL_law_1114 : decode cL_law 1114 = .ok (.iconst 2, 1) := by decide +kernel
theorem dL_law_1115 : decode cL_law 1115 = .ok (.iadd, 1) := by decide +kernel
theorem dL_law_1116 : decode cL_law 1116 = .ok (.iaload, 1) := by decide +kernel
theorem dL_law_1117 : decode cL_law 1117 = .ok (.aload_n 3, 1) := by decide +kernel
theorem dL_law_1118 : decode cL_law 1118 = .ok (.invokestatic 141, 3) := by decide +kernel
theorem dL_law_1121 : decode cL_law 1121 = .ok (.istore 5, 2) := by decide +kernel
theorem dL_law_1123 : decode cL_law 1123 = .ok (.aload_n 2, 1) := by decide +kernel
end
section
theorem dL_law_1124 : decode cL_law 1124 = .ok (.aload_n 0, 1) := by decide +kernel
theorem dL_law_1125 : decode cL_law 1125 = .ok (.iload 4, 2) := by decide +kernel
theorem dL_law_1127 : decode cL_law 1127 = .ok (.iconst 1, 1) := by decide +kernel
theorem dL_law_1128 : decode cL_law 1128 = .ok (.iadd, 1) := by decide +kernel
theorem dL_law_1129 : decode cL_law 1129 = .ok (.iaload, 1) := by decide +kernel
theorem dL_law_1130 : decode cL_law 1130 = .ok (.aload_n 0, 1) := by decide +kernel
theorem dL_law_1131 : decode cL_law 1131 = .ok (.iload 4, 2) := by decide +kernel
theorem dL_law_1133 : decode cL_law 1133 = .ok (.iconst 2, 1) := by decide +kernel
theorem dL_law_1134 : decode cL_law 1134 = .ok (.iadd, 1) := by decide +kernel
theorem dL_law_1135 : decode cL_law 1135 = .ok (.iaload, 1) := by decide +kernel
theorem dL_law_1136 : decode cL_law 1136 = .ok (.invokevirtual 143, 3) := by decide +kernel
theorem dL_law_1139 : decode cL_law 1139 = .ok (.lstore 6, 2) := by decide +kernel
theorem dL_law_1141 : decode cL_law 1141 = .ok (.aload_n 2, 1) := by decide +kernel
theorem dL_law_1142 : decode cL_law 1142 = .ok (.invokevirtual 93, 3) := by decide +kernel
theorem dL_law_1145 : decode cL_law 1145 = .ok (.iload 5, 2) := by decide +kernel
theorem dL_law_1147 : decode cL_law 1147 = .ok (.if_icmp .eq 5, 3) := by decide +kernel
theorem dL_law_1150 : decode cL_law 1150 = .ok (.iconst 0, 1) := by decide +kernel
theorem dL_law_1151 : decode cL_law 1151 = .ok (.ireturn, 1) := by decide +kernel
theorem dL_law_1152 : decode cL_law 1152 = .ok (.iload 5, 2) := by decide +kernel
theorem dL_law_1154 : decode cL_law 1154 = .ok (.ifCond .ne 14, 3) := by decide +kernel
theorem dL_law_1157 : decode cL_law 1157 = .ok (.aload_n 3, 1) := by decide +kernel
theorem dL_law_1158 : decode cL_law 1158 = .ok (.iconst 0, 1) := by decide +kernel
theorem dL_law_1159 : decode cL_law 1159 = .ok (.laload, 1) := by decide +kernel
theorem dL_law_1160 : decode cL_law 1160 = .ok (.lload 6, 2) := by decide +kernel
theorem dL_law_1162 : decode cL_law 1162 = .ok (.lcmp, 1) := by decide +kernel
theorem dL_law_1163 : decode cL_law 1163 = .ok (.ifCond .eq 5, 3) := by decide +kernel
theorem dL_law_1166 : decode cL_law 1166 = .ok (.iconst 0, 1) := by decide +kernel
theorem dL_law_1167 : decode cL_law 1167 = .ok (.ireturn, 1) := by decide +kernel
theorem dL_law_1168 : decode cL_law 1168 = .ok (.goto 431, 3) := by decide +kernel
theorem dL_law_1171 : decode cL_law 1171 = .ok (.aload_n 1, 1) := by decide +kernel
theorem dL_law_1172 : decode cL_law 1172 = .ok (.aload_n 0, 1) := by decide +kernel
theorem dL_law_1173 : decode cL_law 1173 = .ok (.iload 4, 2) := by decide +kernel
theorem dL_law_1175 : decode cL_law 1175 = .ok (.iconst 1, 1) := by decide +kernel
theorem dL_law_1176 : decode cL_law 1176 = .ok (.iadd, 1) := by decide +kernel
theorem dL_law_1177 : decode cL_law 1177 = .ok (.iaload, 1) := by decide +kernel
theorem dL_law_1178 : decode cL_law 1178 = .ok (.aload_n 0, 1) := by decide +kernel
theorem dL_law_1179 : decode cL_law 1179 = .ok (.iload 4, 2) := by decide +kernel
theorem dL_law_1181 : decode cL_law 1181 = .ok (.iconst 2, 1) := by decide +kernel
theorem dL_law_1182 : decode cL_law 1182 = .ok (.iadd, 1) := by decide +kernel
theorem dL_law_1183 : decode cL_law 1183 = .ok (.iaload, 1) := by decide +kernel
theorem dL_law_1184 : decode cL_law 1184 = .ok (.aload_n 3, 1) := by decide +kernel
theorem dL_law_1185 : decode cL_law 1185 = .ok (.invokestatic 144, 3) := by decide +kernel
theorem dL_law_1188 : decode cL_law 1188 = .ok (.istore 5, 2) := by decide +kernel
theorem dL_law_1190 : decode cL_law 1190 = .ok (.aload_n 2, 1) := by decide +kernel
theorem dL_law_1191 : decode cL_law 1191 = .ok (.aload_n 0, 1) := by decide +kernel
theorem dL_law_1192 : decode cL_law 1192 = .ok (.iload 4, 2) := by decide +kernel
theorem dL_law_1194 : decode cL_law 1194 = .ok (.iconst 1, 1) := by decide +kernel
theorem dL_law_1195 : decode cL_law 1195 = .ok (.iadd, 1) := by decide +kernel
theorem dL_law_1196 : decode cL_law 1196 = .ok (.iaload, 1) := by decide +kernel
theorem dL_law_1197 : decode cL_law 1197 = .ok (.aload_n 0, 1) := by decide +kernel
theorem dL_law_1198 : decode cL_law 1198 = .ok (.iload 4, 2) := by decide +kernel
theorem dL_law_1200 : decode cL_law 1200 = .ok (.iconst 2, 1) := by decide +kernel
theorem dL_law_1201 : decode cL_law 1201 = .ok (.iadd, 1) := by decide +kernel
theorem dL_law_1202 : decode cL_law 1202 = .ok (.iaload, 1) := by decide +kernel
theorem dL_law_1203 : decode cL_law 1203 = .ok (.invokevirtual 146, 3) := by decide +kernel
theorem dL_law_1206 : decode cL_law 1206 = .ok (.lstore 6, 2) := by decide +kernel
theorem dL_law_1208 : decode cL_law 1208 = .ok (.aload_n 2, 1) := by decide +kernel
theorem dL_law_1209 : decode cL_law 1209 = .ok (.invokevirtual 93, 3) := by decide +kernel
theorem dL_law_1212 : decode cL_law 1212 = .ok (.iload 5, 2) := by decide +kernel
theorem dL_law_1214 : decode cL_law 1214 = .ok (.if_icmp .eq 5, 3) := by decide +kernel
theorem dL_law_1217 : decode cL_law 1217 = .ok (.iconst 0, 1) := by decide +kernel
theorem dL_law_1218 : decode cL_law 1218 = .ok (.ireturn, 1) := by decide +kernel
theorem dL_law_1219 : decode cL_law 1219 = .ok (.iload 5, 2) := by decide +kernel
theorem dL_law_1221 : decode cL_law 1221 = .ok (.ifCond .ne 14, 3) := by decide +kernel
theorem dL_law_1224 : decode cL_law 1224 = .ok (.aload_n 3, 1) := by decide +kernel
theorem dL_law_1225 : decode cL_law 1225 = .ok (.iconst 0, 1) := by decide +kernel
theorem dL_law_1226 : decode cL_law 1226 = .ok (.laload, 1) := by decide +kernel
theorem dL_law_1227 : decode cL_law 1227 = .ok (.lload 6, 2) := by decide +kernel
theorem dL_law_1229 : decode cL_law 1229 = .ok (.lcmp, 1) := by decide +kernel
theorem dL_law_1230 : decode cL_law 1230 = .ok (.ifCond .eq 5, 3) := by decide +kernel
theorem dL_law_1233 : decode cL_law 1233 = .ok (.iconst 0, 1) := by decide +kernel
theorem dL_law_1234 : decode cL_law 1234 = .ok (.ireturn, 1) := by decide +kernel
theorem dL_law_1235 : decode cL_law 1235 = .ok (.goto 364, 3) := by decide +kernel
theorem dL_law_1238 : decode cL_law 1238 = .ok (.aload_n 1, 1) := by decide +kernel
theorem dL_law_1239 : decode cL_law 1239 = .ok (.aload_n 0, 1) := by decide +kernel
theorem dL_law_1240 : decode cL_law 1240 = .ok (.iload 4, 2) := by decide +kernel
theorem dL_law_1242 : decode cL_law 1242 = .ok (.iconst 1, 1) := by decide +kernel
theorem dL_law_1243 : decode cL_law 1243 = .ok (.iadd, 1) := by decide +kernel
theorem dL_law_1244 : decode cL_law 1244 = .ok (.iaload, 1) := by decide +kernel
theorem dL_law_1245 : decode cL_law 1245 = .ok (.aload_n 0, 1) := by decide +kernel
theorem dL_law_1246 : decode cL_law 1246 = .ok (.iload 4, 2) := by decide +kernel
theorem dL_law_1248 : decode cL_law 1248 = .ok (.iconst 2, 1) := by decide +kernel
theorem dL_law_1249 : decode cL_law 1249 = .ok (.iadd, 1) := by decide +kernel
theorem dL_law_1250 : decode cL_law 1250 = .ok (.iaload, 1) := by decide +kernel
theorem dL_law_1251 : decode cL_law 1251 = .ok (.aload_n 3, 1) := by decide +kernel
theorem dL_law_1252 : decode cL_law 1252 = .ok (.invokestatic 147, 3) := by decide +kernel
theorem dL_law_1255 : decode cL_law 1255 = .ok (.istore 5, 2) := by decide +kernel
theorem dL_law_1257 : decode cL_law 1257 = .ok (.aload_n 2, 1) := by decide +kernel
theorem dL_law_1258 : decode cL_law 1258 = .ok (.aload_n 0, 1) := by decide +kernel
theorem dL_law_1259 : decode cL_law 1259 = .ok (.iload 4, 2) := by decide +kernel
theorem dL_law_1261 : decode cL_law 1261 = .ok (.iconst 1, 1) := by decide +kernel
theorem dL_law_1262 : decode cL_law 1262 = .ok (.iadd, 1) := by decide +kernel
theorem dL_law_1263 : decode cL_law 1263 = .ok (.iaload, 1) := by decide +kernel
theorem dL_law_1264 : decode cL_law 1264 = .ok (.aload_n 0, 1) := by decide +kernel
theorem dL_law_1265 : decode cL_law 1265 = .ok (.iload 4, 2) := by decide +kernel
theorem dL_law_1267 : decode cL_law 1267 = .ok (.iconst 2, 1) := by decide +kernel
theorem dL_law_1268 : decode cL_law 1268 = .ok (.iadd, 1) := by decide +kernel
theorem dL_law_1269 : decode cL_law 1269 = .ok (.iaload, 1) := by decide +kernel
theorem dL_law_1270 : decode cL_law 1270 = .ok (.invokevirtual 149, 3) := by decide +kernel
theorem dL_law_1273 : decode cL_law 1273 = .ok (.istore 6, 2) := by decide +kernel
theorem dL_law_1275 : decode cL_law 1275 = .ok (.aload_n 2, 1) := by decide +kernel
theorem dL_law_1276 : decode cL_law 1276 = .ok (.invokevirtual 93, 3) := by decide +kernel
theorem dL_law_1279 : decode cL_law 1279 = .ok (.iload 5, 2) := by decide +kernel
theorem dL_law_1281 : decode cL_law 1281 = .ok (.if_icmp .eq 5, 3) := by decide +kernel
theorem dL_law_1284 : decode cL_law 1284 = .ok (.iconst 0, 1) := by decide +kernel
theorem dL_law_1285 : decode cL_law 1285 = .ok (.ireturn, 1) := by decide +kernel
theorem dL_law_1286 : decode cL_law 1286 = .ok (.iload 5, 2) := by decide +kernel
theorem dL_law_1288 : decode cL_law 1288 = .ok (.ifCond .ne 15, 3) := by decide +kernel
theorem dL_law_1291 : decode cL_law 1291 = .ok (.aload_n 3, 1) := by decide +kernel
theorem dL_law_1292 : decode cL_law 1292 = .ok (.iconst 0, 1) := by decide +kernel
theorem dL_law_1293 : decode cL_law 1293 = .ok (.laload, 1) := by decide +kernel
theorem dL_law_1294 : decode cL_law 1294 = .ok (.iload 6, 2) := by decide +kernel
theorem dL_law_1296 : decode cL_law 1296 = .ok (.i2l, 1) := by decide +kernel
theorem dL_law_1297 : decode cL_law 1297 = .ok (.lcmp, 1) := by decide +kernel
theorem dL_law_1298 : decode cL_law 1298 = .ok (.ifCond .eq 5, 3) := by decide +kernel
theorem dL_law_1301 : decode cL_law 1301 = .ok (.iconst 0, 1) := by decide +kernel
theorem dL_law_1302 : decode cL_law 1302 = .ok (.ireturn, 1) := by decide +kernel
theorem dL_law_1303 : decode cL_law 1303 = .ok (.goto 296, 3) := by decide +kernel
theorem dL_law_1306 : decode cL_law 1306 = .ok (.aload_n 1, 1) := by decide +kernel
theorem dL_law_1307 : decode cL_law 1307 = .ok (.aload_n 0, 1) := by decide +kernel
theorem dL_law_1308 : decode cL_law 1308 = .ok (.iload 4, 2) := by decide +kernel
theorem dL_law_1310 : decode cL_law 1310 = .ok (.iconst 1, 1) := by decide +kernel
theorem dL_law_1311 : decode cL_law 1311 = .ok (.iadd, 1) := by decide +kernel
theorem dL_law_1312 : decode cL_law 1312 = .ok (.iaload, 1) := by decide +kernel
theorem dL_law_1313 : decode cL_law 1313 = .ok (.aload_n 0, 1) := by decide +kernel
theorem dL_law_1314 : decode cL_law 1314 = .ok (.iload 4, 2) := by decide +kernel
theorem dL_law_1316 : decode cL_law 1316 = .ok (.iconst 2, 1) := by decide +kernel
theorem dL_law_1317 : decode cL_law 1317 = .ok (.iadd, 1) := by decide +kernel
theorem dL_law_1318 : decode cL_law 1318 = .ok (.iaload, 1) := by decide +kernel
theorem dL_law_1319 : decode cL_law 1319 = .ok (.aload_n 3, 1) := by decide +kernel
theorem dL_law_1320 : decode cL_law 1320 = .ok (.invokestatic 150, 3) := by decide +kernel
theorem dL_law_1323 : decode cL_law 1323 = .ok (.istore 5, 2) := by decide +kernel
theorem dL_law_1325 : decode cL_law 1325 = .ok (.aload_n 2, 1) := by decide +kernel
theorem dL_law_1326 : decode cL_law 1326 = .ok (.aload_n 0, 1) := by decide +kernel
theorem dL_law_1327 : decode cL_law 1327 = .ok (.iload 4, 2) := by decide +kernel
theorem dL_law_1329 : decode cL_law 1329 = .ok (.iconst 1, 1) := by decide +kernel
theorem dL_law_1330 : decode cL_law 1330 = .ok (.iadd, 1) := by decide +kernel
theorem dL_law_1331 : decode cL_law 1331 = .ok (.iaload, 1) := by decide +kernel
theorem dL_law_1332 : decode cL_law 1332 = .ok (.aload_n 0, 1) := by decide +kernel
theorem dL_law_1333 : decode cL_law 1333 = .ok (.iload 4, 2) := by decide +kernel
theorem dL_law_1335 : decode cL_law 1335 = .ok (.iconst 2, 1) := by decide +kernel
theorem dL_law_1336 : decode cL_law 1336 = .ok (.iadd, 1) := by decide +kernel
theorem dL_law_1337 : decode cL_law 1337 = .ok (.iaload, 1) := by decide +kernel
theorem dL_law_1338 : decode cL_law 1338 = .ok (.invokevirtual 152, 3) := by decide +kernel
theorem dL_law_1341 : decode cL_law 1341 = .ok (.lstore 6, 2) := by decide +kernel
theorem dL_law_1343 : decode cL_law 1343 = .ok (.aload_n 2, 1) := by decide +kernel
theorem dL_law_1344 : decode cL_law 1344 = .ok (.invokevirtual 93, 3) := by decide +kernel
theorem dL_law_1347 : decode cL_law 1347 = .ok (.iload 5, 2) := by decide +kernel
theorem dL_law_1349 : decode cL_law 1349 = .ok (.if_icmp .eq 5, 3) := by decide +kernel
theorem dL_law_1352 : decode cL_law 1352 = .ok (.iconst 0, 1) := by decide +kernel
theorem dL_law_1353 : decode cL_law 1353 = .ok (.ireturn, 1) := by decide +kernel
theorem dL_law_1354 : decode cL_law 1354 = .ok (.iload 5, 2) := by decide +kernel
theorem dL_law_1356 : decode cL_law 1356 = .ok (.ifCond .ne 14, 3) := by decide +kernel
theorem dL_law_1359 : decode cL_law 1359 = .ok (.aload_n 3, 1) := by decide +kernel
theorem dL_law_1360 : decode cL_law 1360 = .ok (.iconst 0, 1) := by decide +kernel
theorem dL_law_1361 : decode cL_law 1361 = .ok (.laload, 1) := by decide +kernel
theorem dL_law_1362 : decode cL_law 1362 = .ok (.lload 6, 2) := by decide +kernel
theorem dL_law_1364 : decode cL_law 1364 = .ok (.lcmp, 1) := by decide +kernel
theorem dL_law_1365 : decode cL_law 1365 = .ok (.ifCond .eq 5, 3) := by decide +kernel
theorem dL_law_1368 : decode cL_law 1368 = .ok (.iconst 0, 1) := by decide +kernel
theorem dL_law_1369 : decode cL_law 1369 = .ok (.ireturn, 1) := by decide +kernel
theorem dL_law_1370 : decode cL_law 1370 = .ok (.goto 229, 3) := by decide +kernel
theorem dL_law_1373 : decode cL_law 1373 = .ok (.aload_n 1, 1) := by decide +kernel
theorem dL_law_1374 : decode cL_law 1374 = .ok (.aload_n 0, 1) := by decide +kernel
theorem dL_law_1375 : decode cL_law 1375 = .ok (.iload 4, 2) := by decide +kernel
theorem dL_law_1377 : decode cL_law 1377 = .ok (.iconst 1, 1) := by decide +kernel
theorem dL_law_1378 : decode cL_law 1378 = .ok (.iadd, 1) := by decide +kernel
theorem dL_law_1379 : decode cL_law 1379 = .ok (.iaload, 1) := by decide +kernel
theorem dL_law_1380 : decode cL_law 1380 = .ok (.aload_n 0, 1) := by decide +kernel
theorem dL_law_1381 : decode cL_law 1381 = .ok (.iload 4, 2) := by decide +kernel
theorem dL_law_1383 : decode cL_law 1383 = .ok (.iconst 2, 1) := by decide +kernel
theorem dL_law_1384 : decode cL_law 1384 = .ok (.iadd, 1) := by decide +kernel
theorem dL_law_1385 : decode cL_law 1385 = .ok (.iaload, 1) := by decide +kernel
theorem dL_law_1386 : decode cL_law 1386 = .ok (.aload_n 0, 1) := by decide +kernel
theorem dL_law_1387 : decode cL_law 1387 = .ok (.iload 4, 2) := by decide +kernel
theorem dL_law_1389 : decode cL_law 1389 = .ok (.iconst 3, 1) := by decide +kernel
theorem dL_law_1390 : decode cL_law 1390 = .ok (.iadd, 1) := by decide +kernel
theorem dL_law_1391 : decode cL_law 1391 = .ok (.iaload, 1) := by decide +kernel
theorem dL_law_1392 : decode cL_law 1392 = .ok (.aload_n 3, 1) := by decide +kernel
theorem dL_law_1393 : decode cL_law 1393 = .ok (.invokestatic 153, 3) := by decide +kernel
theorem dL_law_1396 : decode cL_law 1396 = .ok (.istore 5, 2) := by decide +kernel
theorem dL_law_1398 : decode cL_law 1398 = .ok (.aload_n 2, 1) := by decide +kernel
theorem dL_law_1399 : decode cL_law 1399 = .ok (.aload_n 0, 1) := by decide +kernel
theorem dL_law_1400 : decode cL_law 1400 = .ok (.iload 4, 2) := by decide +kernel
theorem dL_law_1402 : decode cL_law 1402 = .ok (.iconst 1, 1) := by decide +kernel
theorem dL_law_1403 : decode cL_law 1403 = .ok (.iadd, 1) := by decide +kernel
theorem dL_law_1404 : decode cL_law 1404 = .ok (.iaload, 1) := by decide +kernel
theorem dL_law_1405 : decode cL_law 1405 = .ok (.aload_n 0, 1) := by decide +kernel
theorem dL_law_1406 : decode cL_law 1406 = .ok (.iload 4, 2) := by decide +kernel
theorem dL_law_1408 : decode cL_law 1408 = .ok (.iconst 2, 1) := by decide +kernel
theorem dL_law_1409 : decode cL_law 1409 = .ok (.iadd, 1) := by decide +kernel
theorem dL_law_1410 : decode cL_law 1410 = .ok (.iaload, 1) := by decide +kernel
theorem dL_law_1411 : decode cL_law 1411 = .ok (.aload_n 0, 1) := by decide +kernel
theorem dL_law_1412 : decode cL_law 1412 = .ok (.iload 4, 2) := by decide +kernel
theorem dL_law_1414 : decode cL_law 1414 = .ok (.iconst 3, 1) := by decide +kernel
theorem dL_law_1415 : decode cL_law 1415 = .ok (.iadd, 1) := by decide +kernel
theorem dL_law_1416 : decode cL_law 1416 = .ok (.iaload, 1) := by decide +kernel
theorem dL_law_1417 : decode cL_law 1417 = .ok (.invokevirtual 155, 3) := by decide +kernel
theorem dL_law_1420 : decode cL_law 1420 = .ok (.lstore 6, 2) := by decide +kernel
theorem dL_law_1422 : decode cL_law 1422 = .ok (.aload_n 2, 1) := by decide +kernel
theorem dL_law_1423 : decode cL_law 1423 = .ok (.invokevirtual 93, 3) := by decide +kernel
theorem dL_law_1426 : decode cL_law 1426 = .ok (.iload 5, 2) := by decide +kernel
theorem dL_law_1428 : decode cL_law 1428 = .ok (.if_icmp .eq 5, 3) := by decide +kernel
theorem dL_law_1431 : decode cL_law 1431 = .ok (.iconst 0, 1) := by decide +kernel
theorem dL_law_1432 : decode cL_law 1432 = .ok (.ireturn, 1) := by decide +kernel
theorem dL_law_1433 : decode cL_law 1433 = .ok (.iload 5, 2) := by decide +kernel
theorem dL_law_1435 : decode cL_law 1435 = .ok (.ifCond .ne 14, 3) := by decide +kernel
theorem dL_law_1438 : decode cL_law 1438 = .ok (.aload_n 3, 1) := by decide +kernel
theorem dL_law_1439 : decode cL_law 1439 = .ok (.iconst 0, 1) := by decide +kernel
theorem dL_law_1440 : decode cL_law 1440 = .ok (.laload, 1) := by decide +kernel
theorem dL_law_1441 : decode cL_law 1441 = .ok (.lload 6, 2) := by decide +kernel
theorem dL_law_1443 : decode cL_law 1443 = .ok (.lcmp, 1) := by decide +kernel
theorem dL_law_1444 : decode cL_law 1444 = .ok (.ifCond .eq 5, 3) := by decide +kernel
theorem dL_law_1447 : decode cL_law 1447 = .ok (.iconst 0, 1) := by decide +kernel
theorem dL_law_1448 : decode cL_law 1448 = .ok (.ireturn, 1) := by decide +kernel
theorem dL_law_1449 : decode cL_law 1449 = .ok (.goto 150, 3) := by decide +kernel
theorem dL_law_1452 : decode cL_law 1452 = .ok (.aload_n 1, 1) := by decide +kernel
theorem dL_law_1453 : decode cL_law 1453 = .ok (.aload_n 0, 1) := by decide +kernel
theorem dL_law_1454 : decode cL_law 1454 = .ok (.iload 4, 2) := by decide +kernel
theorem dL_law_1456 : decode cL_law 1456 = .ok (.iconst 1, 1) := by decide +kernel
theorem dL_law_1457 : decode cL_law 1457 = .ok (.iadd, 1) := by decide +kernel
theorem dL_law_1458 : decode cL_law 1458 = .ok (.iaload, 1) := by decide +kernel
theorem dL_law_1459 : decode cL_law 1459 = .ok (.aload_n 0, 1) := by decide +kernel
theorem dL_law_1460 : decode cL_law 1460 = .ok (.iload 4, 2) := by decide +kernel
theorem dL_law_1462 : decode cL_law 1462 = .ok (.iconst 2, 1) := by decide +kernel
theorem dL_law_1463 : decode cL_law 1463 = .ok (.iadd, 1) := by decide +kernel
theorem dL_law_1464 : decode cL_law 1464 = .ok (.iaload, 1) := by decide +kernel
theorem dL_law_1465 : decode cL_law 1465 = .ok (.aload_n 0, 1) := by decide +kernel
theorem dL_law_1466 : decode cL_law 1466 = .ok (.iload 4, 2) := by decide +kernel
theorem dL_law_1468 : decode cL_law 1468 = .ok (.iconst 3, 1) := by decide +kernel
theorem dL_law_1469 : decode cL_law 1469 = .ok (.iadd, 1) := by decide +kernel
theorem dL_law_1470 : decode cL_law 1470 = .ok (.iaload, 1) := by decide +kernel
theorem dL_law_1471 : decode cL_law 1471 = .ok (.aload_n 3, 1) := by decide +kernel
theorem dL_law_1472 : decode cL_law 1472 = .ok (.invokestatic 156, 3) := by decide +kernel
theorem dL_law_1475 : decode cL_law 1475 = .ok (.istore 5, 2) := by decide +kernel
theorem dL_law_1477 : decode cL_law 1477 = .ok (.aload_n 2, 1) := by decide +kernel
theorem dL_law_1478 : decode cL_law 1478 = .ok (.aload_n 0, 1) := by decide +kernel
theorem dL_law_1479 : decode cL_law 1479 = .ok (.iload 4, 2) := by decide +kernel
theorem dL_law_1481 : decode cL_law 1481 = .ok (.iconst 1, 1) := by decide +kernel
theorem dL_law_1482 : decode cL_law 1482 = .ok (.iadd, 1) := by decide +kernel
theorem dL_law_1483 : decode cL_law 1483 = .ok (.iaload, 1) := by decide +kernel
theorem dL_law_1484 : decode cL_law 1484 = .ok (.aload_n 0, 1) := by decide +kernel
theorem dL_law_1485 : decode cL_law 1485 = .ok (.iload 4, 2) := by decide +kernel
theorem dL_law_1487 : decode cL_law 1487 = .ok (.iconst 2, 1) := by decide +kernel
theorem dL_law_1488 : decode cL_law 1488 = .ok (.iadd, 1) := by decide +kernel
theorem dL_law_1489 : decode cL_law 1489 = .ok (.iaload, 1) := by decide +kernel
theorem dL_law_1490 : decode cL_law 1490 = .ok (.aload_n 0, 1) := by decide +kernel
theorem dL_law_1491 : decode cL_law 1491 = .ok (.iload 4, 2) := by decide +kernel
theorem dL_law_1493 : decode cL_law 1493 = .ok (.iconst 3, 1) := by decide +kernel
theorem dL_law_1494 : decode cL_law 1494 = .ok (.iadd, 1) := by decide +kernel
theorem dL_law_1495 : decode cL_law 1495 = .ok (.iaload, 1) := by decide +kernel
theorem dL_law_1496 : decode cL_law 1496 = .ok (.invokevirtual 158, 3) := by decide +kernel
theorem dL_law_1499 : decode cL_law 1499 = .ok (.lstore 6, 2) := by decide +kernel
theorem dL_law_1501 : decode cL_law 1501 = .ok (.aload_n 2, 1) := by decide +kernel
theorem dL_law_1502 : decode cL_law 1502 = .ok (.invokevirtual 93, 3) := by decide +kernel
theorem dL_law_1505 : decode cL_law 1505 = .ok (.iload 5, 2) := by decide +kernel
theorem dL_law_1507 : decode cL_law 1507 = .ok (.if_icmp .eq 5, 3) := by decide +kernel
theorem dL_law_1510 : decode cL_law 1510 = .ok (.iconst 0, 1) := by decide +kernel
theorem dL_law_1511 : decode cL_law 1511 = .ok (.ireturn, 1) := by decide +kernel
theorem dL_law_1512 : decode cL_law 1512 = .ok (.iload 5, 2) := by decide +kernel
theorem dL_law_1514 : decode cL_law 1514 = .ok (.ifCond .ne 14, 3) := by decide +kernel
theorem dL_law_1517 : decode cL_law 1517 = .ok (.aload_n 3, 1) := by decide +kernel
theorem dL_law_1518 : decode cL_law 1518 = .ok (.iconst 0, 1) := by decide +kernel
theorem dL_law_1519 : decode cL_law 1519 = .ok (.laload, 1) := by decide +kernel
theorem dL_law_1520 : decode cL_law 1520 = .ok (.lload 6, 2) := by decide +kernel
theorem dL_law_1522 : decode cL_law 1522 = .ok (.lcmp, 1) := by decide +kernel
theorem dL_law_1523 : decode cL_law 1523 = .ok (.ifCond .eq 5, 3) := by decide +kernel
theorem dL_law_1526 : decode cL_law 1526 = .ok (.iconst 0, 1) := by decide +kernel
theorem dL_law_1527 : decode cL_law 1527 = .ok (.ireturn, 1) := by decide +kernel
theorem dL_law_1528 : decode cL_law 1528 = .ok (.goto 71, 3) := by decide +kernel
theorem dL_law_1531 : decode cL_law 1531 = .ok (.aload_n 1, 1) := by decide +kernel
theorem dL_law_1532 : decode cL_law 1532 = .ok (.aload_n 0, 1) := by decide +kernel
theorem dL_law_1533 : decode cL_law 1533 = .ok (.iload 4, 2) := by decide +kernel
theorem dL_law_1535 : decode cL_law 1535 = .ok (.iconst 1, 1) := by decide +kernel
theorem dL_law_1536 : decode cL_law 1536 = .ok (.iadd, 1) := by decide +kernel
theorem dL_law_1537 : decode cL_law 1537 = .ok (.iaload, 1) := by decide +kernel
theorem dL_law_1538 : decode cL_law 1538 = .ok (.aload_n 0, 1) := by decide +kernel
theorem dL_law_1539 : decode cL_law 1539 = .ok (.iload 4, 2) := by decide +kernel
theorem dL_law_1541 : decode cL_law 1541 = .ok (.iconst 2, 1) := by decide +kernel
theorem dL_law_1542 : decode cL_law 1542 = .ok (.iadd, 1) := by decide +kernel
theorem dL_law_1543 : decode cL_law 1543 = .ok (.iaload, 1) := by decide +kernel
theorem dL_law_1544 : decode cL_law 1544 = .ok (.aload_n 3, 1) := by decide +kernel
theorem dL_law_1545 : decode cL_law 1545 = .ok (.invokestatic 159, 3) := by decide +kernel
theorem dL_law_1548 : decode cL_law 1548 = .ok (.istore 5, 2) := by decide +kernel
theorem dL_law_1550 : decode cL_law 1550 = .ok (.aload_n 2, 1) := by decide +kernel
theorem dL_law_1551 : decode cL_law 1551 = .ok (.aload_n 0, 1) := by decide +kernel
theorem dL_law_1552 : decode cL_law 1552 = .ok (.iload 4, 2) := by decide +kernel
theorem dL_law_1554 : decode cL_law 1554 = .ok (.iconst 1, 1) := by decide +kernel
theorem dL_law_1555 : decode cL_law 1555 = .ok (.iadd, 1) := by decide +kernel
theorem dL_law_1556 : decode cL_law 1556 = .ok (.iaload, 1) := by decide +kernel
theorem dL_law_1557 : decode cL_law 1557 = .ok (.aload_n 0, 1) := by decide +kernel
theorem dL_law_1558 : decode cL_law 1558 = .ok (.iload 4, 2) := by decide +kernel
theorem dL_law_1560 : decode cL_law 1560 = .ok (.iconst 2, 1) := by decide +kernel
theorem dL_law_1561 : decode cL_law 1561 = .ok (.iadd, 1) := by decide +kernel
theorem dL_law_1562 : decode cL_law 1562 = .ok (.iaload, 1) := by decide +kernel
theorem dL_law_1563 : decode cL_law 1563 = .ok (.invokevirtual 161, 3) := by decide +kernel
theorem dL_law_1566 : decode cL_law 1566 = .ok (.istore 6, 2) := by decide +kernel
theorem dL_law_1568 : decode cL_law 1568 = .ok (.aload_n 2, 1) := by decide +kernel
theorem dL_law_1569 : decode cL_law 1569 = .ok (.invokevirtual 93, 3) := by decide +kernel
theorem dL_law_1572 : decode cL_law 1572 = .ok (.iload 5, 2) := by decide +kernel
theorem dL_law_1574 : decode cL_law 1574 = .ok (.if_icmp .eq 5, 3) := by decide +kernel
theorem dL_law_1577 : decode cL_law 1577 = .ok (.iconst 0, 1) := by decide +kernel
theorem dL_law_1578 : decode cL_law 1578 = .ok (.ireturn, 1) := by decide +kernel
theorem dL_law_1579 : decode cL_law 1579 = .ok (.iload 5, 2) := by decide +kernel
theorem dL_law_1581 : decode cL_law 1581 = .ok (.ifCond .ne 15, 3) := by decide +kernel
theorem dL_law_1584 : decode cL_law 1584 = .ok (.aload_n 3, 1) := by decide +kernel
theorem dL_law_1585 : decode cL_law 1585 = .ok (.iconst 0, 1) := by decide +kernel
theorem dL_law_1586 : decode cL_law 1586 = .ok (.laload, 1) := by decide +kernel
theorem dL_law_1587 : decode cL_law 1587 = .ok (.iload 6, 2) := by decide +kernel
theorem dL_law_1589 : decode cL_law 1589 = .ok (.i2l, 1) := by decide +kernel
theorem dL_law_1590 : decode cL_law 1590 = .ok (.lcmp, 1) := by decide +kernel
theorem dL_law_1591 : decode cL_law 1591 = .ok (.ifCond .eq 5, 3) := by decide +kernel
theorem dL_law_1594 : decode cL_law 1594 = .ok (.iconst 0, 1) := by decide +kernel
theorem dL_law_1595 : decode cL_law 1595 = .ok (.ireturn, 1) := by decide +kernel
theorem dL_law_1596 : decode cL_law 1596 = .ok (.goto 3, 3) := by decide +kernel
theorem dL_law_1599 : decode cL_law 1599 = .ok (.iinc 4 8, 3) := by decide +kernel
theorem dL_law_1602 : decode cL_law 1602 = .ok (.goto (-1579), 3) := by decide +kernel
theorem dL_law_1605 : decode cL_law 1605 = .ok (.iconst 1, 1) := by decide +kernel
theorem dL_law_1606 : decode cL_law 1606 = .ok (.ireturn, 1) := by decide +kernel
end
section
/-! OWN LAYER: the launch's facts, contracts that leave the heap as it is, contracts that change it, contracts that throw. -/
abbrev ET : Type := Launch × va_G × (Nat → ClassId) × Nat × Nat × Nat
abbrev eL (E : ET) : Launch := E.1
abbrev eD (E : ET) : va_G := E.2.1
abbrev eA (E : ET) : Nat → ClassId := E.2.2.1
abbrev eB (E : ET) : Nat := E.2.2.2.1
abbrev eF (E : ET) : Nat := E.2.2.2.2.1
abbrev eM (E : ET) : Nat := E.2.2.2.2.2
abbrev tyL (E : ET) : List (ClassId × FieldType) := [(eA E 0, .int), (eA E 1, .boolean), (eA E 2, .object "java/lang/Object"), (eA E 3, .long)]
abbrev fr (E : ET) : Nat → Prop := fun q => eB E ≤ q
abbrev OB (E : ET) (ci : Nat) (fs : List Value) (a : Nat) (H : Heap) : Prop := va_P (eD E) vwCl [(a, .inr (ci, fs))] H
abbrev IA (E : ET) (n : Nat) (f : Nat → Int32) (a : Nat) (H : Heap) : Prop := va_P (eD E) vwCl [(a, .inl (eA E 0, n, .inl f))] H
abbrev ZA (E : ET) (n : Nat) (f : Nat → Int32) (a : Nat) (H : Heap) : Prop := va_P (eD E) vwCl [(a, .inl (eA E 1, n, .inl f))] H
abbrev QA (E : ET) (n : Nat) (f : Nat → Option Nat) (a : Nat) (H : Heap) : Prop := va_P (eD E) vwCl [(a, .inl (eA E 2, n, .inr (.inr (.inr (.inr f)))))] H
abbrev JA (E : ET) (n : Nat) (f : Nat → Int64) (a : Nat) (H : Heap) : Prop := va_P (eD E) vwCl [(a, .inl (eA E 3, n, .inr (.inl f)))] H
theorem pk1 {E : ET} {a : Nat} {x : va_E} {H H1 : Heap} (h : va_P (eD E) vwCl [(a, x)] H) (hq : H1[a]? = H[a]?) : va_P (eD E) vwCl [(a, x)] H1 := h.kept (fun k q hk => by
  cases k with
  | zero => cases hk; exact hq
  | succ k => cases hk)
theorem plt {E : ET} {a : Nat} {x : va_E} {H : Heap} (h : va_P (eD E) vwCl [(a, x)] H) : a < H.size := (h 0 _ rfl).lt
def strL : List (Nat × String) := [(32, "no such town"), (178, "an argument is out of range"), (55, "the town has this holiday, or no room for it"), (72, "no room for another fixing"), (186, "no such party"), (88, "no room for another trade"), (188, "no such trade"), (109, "the trade has a break"), (124, "the rest of the trade is less than that"), (129, "the trade was handed over too often"), (193, "no such period")]
abbrev xI : String := "java/lang/IndexOutOfBoundsException"
abbrev xA : String := "java/lang/IllegalArgumentException"
abbrev xS : String := "java/lang/IllegalStateException"
abbrev xO : String := "java/lang/Object"
def casL : List (String × String) := [(RX2, xO), (RX3, xO), (xI, xI), (xA, xA), (xS, xS)]
def ncL : List (String × String) := [(xA, xI), (xS, xI), (xI, xA), (xS, xA), (xI, xS), (xA, xS)]
theorem nwC_moved {C T : String} {u U : State} (hvm : u.vm.Alike U.vm) (h : va_Nw (.castable C T) u) : va_Nw (.castable C T) U := va_tabs rfl (rfl : (u.setVm U.vm).vm = U.vm) (by rw [Cond.castable_setVm hvm]; exact h)
theorem nwD_moved {y : MethodName} {u U : State} (hvm : u.vm.Alike U.vm) (h : va_Nw (.declares y) u) : va_Nw (.declares y) U := va_tabs rfl (rfl : (u.setVm U.vm).vm = U.vm) (by rw [Cond.declares_setVm hvm]; exact h)
def decL : List MethodName := [⟨"java/lang/RuntimeException", "<init>", "(Ljava/lang/String;)V"⟩, ⟨"java/lang/Exception", "<init>", "(Ljava/lang/String;)V"⟩, ⟨"java/lang/Throwable", "<init>", "(Ljava/lang/String;)V"⟩]
/-- what every method is told: the classes as the tables have them, the statics of the JDK that are read, the texts, below the cell eB all that was there before the law -/
def EV (E : ET) (U : State) (H : Heap) : Prop :=
  va_K (eD E) vwCl (tyL E) U ∧ eB E ≤ H.size ∧ eF E < eB E ∧ QA E 0 (fun _ => none) (eF E) H ∧ va_Z "java/util/ArrayList" "DEFAULTCAPACITY_EMPTY_ELEMENTDATA" "[Ljava/lang/Object;" (.ref (eF E)) (fr E) U H ∧ vx_Zq Bundle.tN "UNASSIGNED_STACK" Bundle.steD (fr E) U H ∧ vx_Zq Bundle.tN "SUPPRESSED_SENTINEL" Bundle.listD (fr E) U H ∧ (eL E).stackTraces = false ∧ (∀ q ∈ strL, ∃ a, vk_R RX4 q.1 q.2 a U) ∧ (∀ q ∈ casL, va_Nw (.castable q.1 q.2) U) ∧ (∀ q ∈ ncL, va_Nc q.1 q.2 U) ∧ va_Mi "[Ljava/lang/Object;" (eM E) U ∧ va_Dc U ∧ va_AO xO U ∧ (∀ y ∈ decL, va_Nw (.declares y) U)
theorem EV.alike {E : ET} {u U : State} {H : Heap} (hvm : u.vm.Alike U.vm) (hs : ∀ q ∈ strL, ∃ a, vk_R RX4 q.1 q.2 a U) (h : EV E u H) : EV E U H := by
  obtain ⟨h1, h2, h3, h4, h5, h6, h7, h8, h9, h10, h11, h12, h13, h14, h15⟩ := h
  exact ⟨va_K.moved hvm h1, h2, h3, h4, va_Z.moved hvm h5, vx_Zq.moved hvm h6, vx_Zq.moved hvm h7, h8, hs, fun q hq => nwC_moved hvm (h10 q hq), fun q hq => va_Nc.moved hvm (h11 q hq), va_Mi.moved hvm h12, va_Dc.moved hvm h13, va_AO.moved hvm h14, fun y hy => nwD_moved hvm (h15 y hy)⟩
theorem EV.warm {E : ET} {u U : State} {H : Heap} (hW : u.WarmedH U.vm) (h : EV E u H) : EV E U H := h.alike hW.alike (fun q hq => by
  obtain ⟨a, ha⟩ := h.2.2.2.2.2.2.2.2.1 q hq
  exact ⟨a, vk_R.warm hW ha⟩)
theorem EV.same {E : ET} {u U : State} {H : Heap} (hv : U.vm = u.vm) (h : EV E u H) : EV E U H := h.alike (by rw [hv]; exact Vm.Alike.refl _) (fun q hq => by
  obtain ⟨a, ha⟩ := h.2.2.2.2.2.2.2.2.1 q hq
  exact ⟨a, vk_R.same hv ha⟩)
theorem EV.kept {E : ET} {U : State} {H H1 : Heap} (h : EV E U H) (hs : H.size ≤ H1.size) (hq : ∀ q : Nat, q < eB E → H1[q]? = H[q]?) : EV E U H1 := by
  have hz : ∀ a : Nat, a < H.size → ¬ fr E a → H1[a]? = H[a]? := fun a _ ha => hq a (Nat.lt_of_not_le ha)
  obtain ⟨h1, h2, h3, h4, h5, h6, h7, h8⟩ := h
  exact ⟨h1, Nat.le_trans h2 hs, h3, pk1 h4 (hq _ h3), va_Z.kept h5 hz, vx_Zq.kept h6 hz, vx_Zq.kept h7 hz, h8⟩
theorem EV.K {E : ET} {U : State} {H : Heap} (h : EV E U H) : va_K (eD E) vwCl (tyL E) U := h.1
abbrev rmk (k mc ms : Nat) : Room := { frames := k, cells := mc, slots := ms, locals := 40 * k }
abbrev wm (y : MethodName) (b : ByteArray) (mL : Nat) (ret : Option FieldType) : List Cond := Cond.code y b mL ret :: Tw
def PC (E : ET) (av : List Value) (H : Heap) : Array Value → State → Prop := fun a U => a = av.toArray ∧ U.heap = H ∧ EV E U U.heap
theorem PC.blind {E : ET} {av : List Value} {H : Heap} : FrameBlind (PC E av H) := fun a U g mk q => ⟨q.1, q.2.1, EV.same (u := U) (U := U.calling g mk a) rfl q.2.2⟩
def PQ (v : Option Value) : Array Value → State → Outcome → State → Prop := fun _ st o t => o = .returned v ∧ t.heap = st.heap
def CQ (E : ET) (out : Option Value → Heap → Prop) : Array Value → State → Outcome → State → Prop := fun _ st o t => ∃ v, o = .returned v ∧ out v t.heap ∧ st.heap.size ≤ t.heap.size ∧ ∀ q : Nat, q < eB E → t.heap[q]? = st.heap[q]?
def XQ (E : ET) (bad : String → Prop) : String → State → State → Prop := fun X st t => bad X ∧ st.heap.size ≤ t.heap.size ∧ ∀ q : Nat, q < st.heap.size → t.heap[q]? = st.heap[q]?
/-- a method that leaves the heap as it is and answers v -/
abbrev PCon (E : ET) (y : MethodName) (b : ByteArray) (mL : Nat) (ret : Option FieldType) (k : Nat) (av : List Value) (H : Heap) (v : Option Value) : Prop := Met (eL E) y (wm y b mL ret) (rmk k 0 0) (PC E av H) (PQ v) 0 0 (fun _ => False)
/-- a method that changes the heap -/
abbrev Con (E : ET) (y : MethodName) (b : ByteArray) (mL : Nat) (ret : Option FieldType) (k mc ms : Nat) (av : List Value) (H : Heap) (out : Option Value → Heap → Prop) : Prop := Met (eL E) y (wm y b mL ret) (rmk k mc ms) (PC E av H) (CQ E out) mc ms (fr E)
/-- a method that may throw; what is there before it stays when it throws -/
abbrev XCon (E : ET) (y : MethodName) (b : ByteArray) (mL : Nat) (ret : Option FieldType) (k mc ms : Nat) (av : List Value) (H : Heap) (out : Option Value → Heap → Prop) (bad : String → Prop) : Prop := vx_Met (eL E) y (wm y b mL ret) (rmk k mc ms) (PC E av H) (CQ E out) (XQ E bad) mc ms (fr E)
theorem tw_hts {y : MethodName} {b : ByteArray} {mL : Nat} {ret : Option FieldType} {args : Array Value} {s : State} (h : (allAtoms (wm y b mL ret)).before args s = true) : ∀ w ∈ Tw, w.before args s = true := fun w hw => atoms_spec (ws := wm y b mL ret) h w (List.mem_cons_of_mem _ hw)
theorem PCon.of {E : ET} {y : MethodName} {b : ByteArray} {mL : Nat} {ret : Option FieldType} {k : Nat} {av : List Value} {H : Heap} {v : Option Value} {C : String} (hC : y.cls = C) (hy : plainName y.cls = true) (hn : (lg_sl av).length ≤ mL)
    (body : ∀ (p : Program) (e : Env) (s : State) (m : MethodId) (below : List Frame) (meth : Method) (c : Code) (ls : Array Slot), p.tables.exec = Jvm.exec → c.code = b → meth.sig.returnType = ret → meth.locks = false → c.maxLocals = mL → s.vm.findClass C = some m.cls → (∀ w ∈ Tw, w.before av.toArray s = true) → EV E s H → s.heap = H → lv_has ls mL (lv_args 0 av) →
      W p (eL E) e (rmk k 0 0) s m av.toArray below meth c H [] 0 0 (MQ below (PQ v) av.toArray s 0 0 (fun _ => False)) (F0 m 0 ls [])) : PCon E y b mL ret k av H v := by
  refine Met.ofW (cc := b) (maxL := mL) (ret := ret) hy rfl ?_
  intro p e s m args below meth c s₁ B hml hv
  obtain ⟨rfl, rfl, hE⟩ := hv
  subst hC
  have hl := lv_entry av hn
  rw [lg_entry_eq]
  exact body p e s m below meth c _ B.exec B.bytes B.returns B.notSynchronized hml (findClass_of_methodNamed B.named) (tw_hts B.pre) hE rfl hl
theorem Con.of {E : ET} {y : MethodName} {b : ByteArray} {mL : Nat} {ret : Option FieldType} {k mc ms : Nat} {av : List Value} {H : Heap} {out : Option Value → Heap → Prop} {C : String} (hC : y.cls = C) (hy : plainName y.cls = true) (hn : (lg_sl av).length ≤ mL)
    (body : ∀ (p : Program) (e : Env) (s : State) (m : MethodId) (below : List Frame) (meth : Method) (c : Code) (ls : Array Slot), p.tables.exec = Jvm.exec → c.code = b → meth.sig.returnType = ret → meth.locks = false → c.maxLocals = mL → s.vm.findClass C = some m.cls → (∀ w ∈ Tw, w.before av.toArray s = true) → meth.name = y.name → EV E s H → s.heap = H → va_S (fr E) s.heap H [] → lv_has ls mL (lv_args 0 av) →
      W p (eL E) e (rmk k mc ms) s m av.toArray below meth c H [] 0 0 (MQ below (CQ E out) av.toArray s mc ms (fr E)) (F0 m 0 ls [])) : Con E y b mL ret k mc ms av H out := by
  refine Met.ofW (cc := b) (maxL := mL) (ret := ret) hy rfl ?_
  intro p e s m args below meth c s₁ B hml hv
  obtain ⟨rfl, rfl, hE⟩ := hv
  subst hC
  have hl := lv_entry av hn
  rw [lg_entry_eq]
  exact body p e s m below meth c _ B.exec B.bytes B.returns B.notSynchronized hml (findClass_of_methodNamed B.named) (tw_hts B.pre) (name_of_methodNamed B.named B.method).1 hE rfl va_S.rf hl
theorem XCon.of {E : ET} {y : MethodName} {b : ByteArray} {mL : Nat} {ret : Option FieldType} {k mc ms : Nat} {av : List Value} {H : Heap} {out : Option Value → Heap → Prop} {bad : String → Prop} {C : String} (hC : y.cls = C) (hy : plainName y.cls = true) (hn : (lg_sl av).length ≤ mL)
    (body : ∀ (p : Program) (e : Env) (s : State) (m : MethodId) (below : List Frame) (meth : Method) (c : Code) (ls : Array Slot), p.tables.exec = Jvm.exec → c.code = b → meth.sig.returnType = ret → meth.locks = false → c.maxLocals = mL → s.vm.findClass C = some m.cls → (∀ w ∈ Tw, w.before av.toArray s = true) → (∀ x ∈ c.exceptionTable.toList, False) → EV E s H → s.heap = H → va_S (fr E) s.heap H [] → lv_has ls mL (lv_args 0 av) →
      W p (eL E) e (rmk k mc ms) s m av.toArray below meth c H [] 0 0 (vx_MQ below (CQ E out) (XQ E bad) av.toArray s mc ms (fr E)) (F0 m 0 ls [])) : XCon E y b mL ret k mc ms av H out bad := by
  refine vx_ofW (cc := b) (maxL := mL) (ret := ret) hy rfl ?_
  intro p e s m args below meth c s₁ B hml hxt hv
  obtain ⟨rfl, rfl, hE⟩ := hv
  subst hC
  have hl := lv_entry av hn
  rw [lg_entry_eq]
  exact body p e s m below meth c _ B.exec B.bytes B.returns B.notSynchronized hml (findClass_of_methodNamed B.named) (tw_hts B.pre) hxt hE rfl va_S.rf hl
end
section
section STP
variable {p : Program} {l : Launch} {e : Env} {R : Room} {s : State} {m : MethodId} {args : Array Value} {below : List Frame} {meth : Method} {c : Code} {H H0 : Heap} {locs : List Loc} {cells slots : Nat} {Q : State → Prop}
variable {cc : ByteArray} {pc nL : Nat} {ls : Array Slot} {rest : List Value} {E : ET} {own : String}
/-! ends of methods that leave the heap -/
theorem pI {v w : Int32} (hx : p.tables.exec = Jvm.exec) (hb : c.code = cc) (hr : meth.sig.returnType = some .int) (hlk : meth.locks = false) (hH : s.heap = H) (he : v = w) (hdg : decode cc pc = .ok (.ireturn, 1)) : W p l e R s m args below meth c H [] 0 0 (MQ below (PQ (some (.int w))) args s 0 0 (fun _ => False)) (F0 m pc ls [.int v]) := by
  subst he
  exact W.iret hx hb hr (fun t ht hW => ⟨rfl, by rw [ht, hH]⟩) (fun q h => by cases h) hdg hlk
theorem nrwZ {b : Bool} : narrow .boolean (.int (if b then 1 else 0)) = .int (if b then 1 else 0) := by cases b <;> rfl
theorem pZ {v : Int32} {b : Bool} (hx : p.tables.exec = Jvm.exec) (hb : c.code = cc) (hr : meth.sig.returnType = some .boolean) (hlk : meth.locks = false) (hH : s.heap = H) (he : v = if b then 1 else 0) (hdg : decode cc pc = .ok (.ireturn, 1)) : W p l e R s m args below meth c H [] 0 0 (MQ below (PQ (some (.int (if b then 1 else 0)))) args s 0 0 (fun _ => False)) (F0 m pc ls [.int v]) := by
  subst he
  exact W.zret hx hb hr nrwZ (fun t ht hW => ⟨rfl, by rw [ht, hH]⟩) (fun q h => by cases h) hdg hlk
theorem pL {v w : Int64} (hx : p.tables.exec = Jvm.exec) (hb : c.code = cc) (hr : meth.sig.returnType = some .long) (hlk : meth.locks = false) (hH : s.heap = H) (he : v = w) (hdg : decode cc pc = .ok (.lreturn, 1)) : W p l e R s m args below meth c H [] 0 0 (MQ below (PQ (some (.long w))) args s 0 0 (fun _ => False)) (F0 m pc ls [.long v]) := by
  subst he
  exact W.lret hx hb hr (fun t ht hW => ⟨rfl, by rw [ht, hH]⟩) (fun q h => by cases h) hdg hlk
theorem pA {v w : Value} {rt : FieldType} (hx : p.tables.exec = Jvm.exec) (hb : c.code = cc) (hr : meth.sig.returnType = some rt) (hrt : (∃ n, rt = .object n) ∨ ∃ t, rt = .array t) (hv : v = .null ∨ ∃ a, v = .ref a) (hlk : meth.locks = false) (hH : s.heap = H) (he : v = w) (hdg : decode cc pc = .ok (.areturn, 1)) : W p l e R s m args below meth c H [] 0 0 (MQ below (PQ (some w)) args s 0 0 (fun _ => False)) (F0 m pc ls [v]) := by
  subst he
  exact W.aret hx hb hr hrt hv (fun t ht hW => ⟨rfl, by rw [ht, hH]⟩) (fun q h => by cases h) hdg hlk
theorem pU (hx : p.tables.exec = Jvm.exec) (hb : c.code = cc) (hr : meth.sig.returnType = none) (hlk : meth.locks = false) (hH : s.heap = H) (hdg : decode cc pc = .ok (.return_, 1)) : W p l e R s m args below meth c H [] 0 0 (MQ below (PQ none) args s 0 0 (fun _ => False)) (F0 m pc ls []) :=
  W.vret hx hb hr (fun t ht hW => ⟨rfl, by rw [ht, hH]⟩) (fun q h => by cases h) hdg hlk
/-! ends of methods that change it -/
theorem CQ.of {out : Option Value → Heap → Prop} {v : Option Value} {t : State} {a : Array Value} (hB : eB E ≤ s.heap.size) (hS : va_S (fr E) s.heap H locs) (ho : out v H) (ht : t.heap = H) : CQ E out a s (.returned v) t := by
  subst ht
  exact ⟨v, rfl, ho, hS.1, fun q hq => hS.2.1 q (Nat.lt_of_lt_of_le hq hB) (Nat.not_le_of_lt hq)⟩
theorem cI {out : Option Value → Heap → Prop} {v : Int32} {mc ms : Nat} (hx : p.tables.exec = Jvm.exec) (hb : c.code = cc) (hr : meth.sig.returnType = some .int) (hlk : meth.locks = false) (hB : eB E ≤ s.heap.size) (hS : va_S (fr E) s.heap H locs) (hc : cells ≤ mc) (hs : slots ≤ ms) (ho : out (some (.int v)) H) (hdg : decode cc pc = .ok (.ireturn, 1)) : W p l e R s m args below meth c H locs cells slots (MQ below (CQ E out) args s mc ms (fr E)) (F0 m pc ls [.int v]) :=
  W.widen hc hs (W.iret hx hb hr (fun t ht hW => CQ.of hB hS ho ht) hS.2.2 hdg hlk)
theorem cZ {out : Option Value → Heap → Prop} {v : Int32} {mc ms : Nat} (hx : p.tables.exec = Jvm.exec) (hb : c.code = cc) (hr : meth.sig.returnType = some .boolean) (hlk : meth.locks = false) (hB : eB E ≤ s.heap.size) (hS : va_S (fr E) s.heap H locs) (hc : cells ≤ mc) (hs : slots ≤ ms) (hv : v = 0 ∨ v = 1) (ho : out (some (.int v)) H) (hdg : decode cc pc = .ok (.ireturn, 1)) : W p l e R s m args below meth c H locs cells slots (MQ below (CQ E out) args s mc ms (fr E)) (F0 m pc ls [.int v]) :=
  W.widen hc hs (W.zret hx hb hr (by rcases hv with rfl | rfl <;> rfl) (fun t ht hW => CQ.of hB hS ho ht) hS.2.2 hdg hlk)
theorem cL {out : Option Value → Heap → Prop} {v : Int64} {mc ms : Nat} (hx : p.tables.exec = Jvm.exec) (hb : c.code = cc) (hr : meth.sig.returnType = some .long) (hlk : meth.locks = false) (hB : eB E ≤ s.heap.size) (hS : va_S (fr E) s.heap H locs) (hc : cells ≤ mc) (hs : slots ≤ ms) (ho : out (some (.long v)) H) (hdg : decode cc pc = .ok (.lreturn, 1)) : W p l e R s m args below meth c H locs cells slots (MQ below (CQ E out) args s mc ms (fr E)) (F0 m pc ls [.long v]) :=
  W.widen hc hs (W.lret hx hb hr (fun t ht hW => CQ.of hB hS ho ht) hS.2.2 hdg hlk)
theorem cR {out : Option Value → Heap → Prop} {v : Value} {rt : FieldType} {mc ms : Nat} (hx : p.tables.exec = Jvm.exec) (hb : c.code = cc) (hr : meth.sig.returnType = some rt) (hrt : (∃ n, rt = .object n) ∨ ∃ t, rt = .array t) (hv : v = .null ∨ ∃ a, v = .ref a) (hlk : meth.locks = false) (hB : eB E ≤ s.heap.size) (hS : va_S (fr E) s.heap H locs) (hc : cells ≤ mc) (hs : slots ≤ ms) (ho : out (some v) H) (hdg : decode cc pc = .ok (.areturn, 1)) : W p l e R s m args below meth c H locs cells slots (MQ below (CQ E out) args s mc ms (fr E)) (F0 m pc ls [v]) :=
  W.widen hc hs (W.aret hx hb hr hrt hv (fun t ht hW => CQ.of hB hS ho ht) hS.2.2 hdg hlk)
theorem cU {out : Option Value → Heap → Prop} {mc ms : Nat} (hx : p.tables.exec = Jvm.exec) (hb : c.code = cc) (hr : meth.sig.returnType = none) (hlk : meth.locks = false) (hB : eB E ≤ s.heap.size) (hS : va_S (fr E) s.heap H locs) (hc : cells ≤ mc) (hs : slots ≤ ms) (ho : out none H) (hdg : decode cc pc = .ok (.return_, 1)) : W p l e R s m args below meth c H locs cells slots (MQ below (CQ E out) args s mc ms (fr E)) (F0 m pc ls []) :=
  W.widen hc hs (W.vret hx hb hr (fun t ht hW => CQ.of hB hS ho ht) hS.2.2 hdg hlk)
/-! getfield -/
def LK (own : String) (idx : Nat) (C : String) (T : u_T) (N ci k : Nat) (ref : String) : Prop := (∀ w ∈ u_ws C T N, w ∈ Tw) ∧ vwCl[ci]? = some (C, T, N) ∧ k < N ∧ Cond.fieldLink own idx ref (T k).2.1 (T k).2.2.1 ∈ Tw ∧ ((T k).1 = ref ∨ Cond.sameField ref (T k).1 (T k).2.1 (T k).2.2.1 ∈ Tw)
theorem LK.same {idx : Nat} {C : String} {T : u_T} {N ci k : Nat} {ref : String} (h : LK own idx C T N ci k ref) (hts : ∀ w ∈ Tw, w.before args s = true) : ∀ x, s.fieldFound? (T k).1 (T k).2.1 (T k).2.2.1 = some x → s.fieldFound? ref (T k).2.1 (T k).2.2.1 = some x := by
  intro x hx
  rcases h.2.2.2.2 with h | h
  · rw [← h]; exact hx
  · exact u_same (hts _ h) x hx
theorem gf {idx : Nat} {C : String} {T : u_T} {N ci k : Nat} {ref : String} {fs : List Value} {a : Nat} {v : Value} (hx : p.tables.exec = Jvm.exec) (hb : c.code = cc) (hts : ∀ w ∈ Tw, w.before args s = true) (hown : s.vm.findClass own = some m.cls) (hE : EV E s H) (hlk : LK own idx C T N ci k ref) (hO : OB E ci fs a H) (hv : fs[k]? = some v) (hdg : decode cc pc = .ok (.getfield idx, 3))
    (kk : W p l e R s m args below meth c H locs cells slots Q (F0 m (pc + 3) ls (v :: rest))) : W p l e R s m args below meth c H locs cells slots Q (F0 m pc ls (.ref a :: rest)) :=
  va_get hx hb hts hlk.1 hown hE.K hO 0 rfl hlk.2.1 k hlk.2.2.1 (hts _ hlk.2.2.2.1) (hlk.same hts) hv hdg kk
/-! calls of methods that leave the heap -/
theorem wm_good {y : MethodName} {b : ByteArray} {mL : Nat} {ret : Option FieldType} (h : Cond.code y b mL ret ∈ Tw) : GoodIn Tw (wm y b mL ret) := fun w hw => by
  rcases List.mem_cons.mp hw with rfl | hw
  · exact ⟨h, good_of_word (tw_good h)⟩
  · exact ⟨hw, good_of_word (tw_good hw)⟩
def okc (y : MethodName) (n : Nat) : Prop := y.cls ≠ "java/lang/invoke/MethodHandle" ∧ y.cls ≠ "java/lang/invoke/VarHandle" ∧ (parseMethodDescriptor y.desc).map (fun d => d.parameters.length) = some n
def kwV (own : String) (idx : Nat) (y : MethodName) (b : ByteArray) (mL : Nat) (ret : Option FieldType) (n : Nat) : Prop := Cond.methodLink own idx y ∈ Tw ∧ Cond.instanceMethod y ∈ Tw ∧ Cond.selects y.cls y y ∈ Tw ∧ Cond.initialized y.cls ∈ Tw ∧ Cond.code y b mL ret ∈ Tw ∧ okc y n ∧ mL ≤ 21
def kwS (own : String) (idx : Nat) (y : MethodName) (b : ByteArray) (mL : Nat) (ret : Option FieldType) (n : Nat) : Prop := Cond.methodLink own idx y ∈ Tw ∧ Cond.static y ∈ Tw ∧ Cond.initialized y.cls ∈ Tw ∧ Cond.code y b mL ret ∈ Tw ∧ okc y n ∧ mL ≤ 21
def kwI (own : String) (idx : Nat) (y : MethodName) (b : ByteArray) (mL : Nat) (n : Nat) : Prop := Cond.methodLink own idx y ∈ Tw ∧ Cond.instanceMethod y ∈ Tw ∧ Cond.initialized y.cls ∈ Tw ∧ Cond.code y b mL none ∈ Tw ∧ okc y n ∧ mL ≤ 21 ∧ y.name = "<init>"
theorem good1 {w : Cond} (h : w ∈ Tw) : w ∈ Tw ∧ ((w.onTables && w.keeps) = true ∨ ∃ ty, w = .arrayClass ty) := ⟨h, good_of_word (tw_good h)⟩
theorem cwV9 {k k' mc ms mc' ms' : Nat} {idx : Nat} {y : MethodName} {b : ByteArray} {mL : Nat} {ret : Option FieldType} {n : Nat} (hts : ∀ w ∈ Tw, w.before args s = true) (h : kwV own idx y b mL ret n) (hk : k' + 1 ≤ k) : CallW (rmk k mc ms) s args own y.cls idx y b mL ret (wm y b mL ret) (rmk k' mc' ms') mc' ms' n := by
  obtain ⟨h1, h2, h3, h4, h5, h6, h7⟩ := h
  refine cwV n hts (fun w hw => ?_) rfl rfl rfl ⟨rfl, h6⟩ ⟨hk, ?_⟩
  · simp only [wsV, List.cons_append, List.nil_append] at hw
    rcases List.mem_cons.mp hw with rfl | hw
    · exact good1 h1
    rcases List.mem_cons.mp hw with rfl | hw
    · exact good1 h2
    rcases List.mem_cons.mp hw with rfl | hw
    · exact good1 h3
    rcases List.mem_cons.mp hw with rfl | hw
    · exact good1 h4
    · exact wm_good h5 w hw
  · show 8 + (mL + 11) + 40 * k' ≤ 40 * k
    omega
theorem cwS9 {k k' mc ms mc' ms' : Nat} {idx : Nat} {y : MethodName} {b : ByteArray} {mL : Nat} {ret : Option FieldType} {n : Nat} (hts : ∀ w ∈ Tw, w.before args s = true) (h : kwS own idx y b mL ret n) (hk : k' + 1 ≤ k) : CallB (rmk k mc ms) s args own idx y b mL ret (wm y b mL ret) (rmk k' mc' ms') mc' ms' n ∧ (Cond.static y).before args s = true := by
  obtain ⟨h1, h2, h4, h5, h6, h7⟩ := h
  refine va_cwS n hts (fun w hw => ?_) rfl rfl rfl h6 ⟨hk, ?_⟩
  · simp only [va_wsS, List.cons_append, List.nil_append] at hw
    rcases List.mem_cons.mp hw with rfl | hw
    · exact good1 h1
    rcases List.mem_cons.mp hw with rfl | hw
    · exact good1 h2
    rcases List.mem_cons.mp hw with rfl | hw
    · exact good1 h4
    · exact wm_good h5 w hw
  · show 8 + (mL + 11) + 40 * k' ≤ 40 * k
    omega
theorem cwI9 {k k' mc ms mc' ms' : Nat} {idx : Nat} {y : MethodName} {b : ByteArray} {mL : Nat} {n : Nat} (hts : ∀ w ∈ Tw, w.before args s = true) (h : kwI own idx y b mL n) (hk : k' + 1 ≤ k) : CallB (rmk k mc ms) s args own idx y b mL none (wm y b mL none) (rmk k' mc' ms') mc' ms' n ∧ y.name = "<init>" ∧ (Cond.instanceMethod y).before args s = true := by
  obtain ⟨h1, h2, h4, h5, h6, h7, h8⟩ := h
  refine cwI n hts (wm_good h5) rfl rfl rfl (hts _ h4) (hts _ h1) (hts _ h2) h8 h6 ⟨hk, ?_⟩
  show 8 + (mL + 11) + 40 * k' ≤ 40 * k
  omega
theorem recv9 {ci : Nat} {fs : List Value} {a : Nat} {C : String} {T : u_T} {N : Nat} (hE : EV E s H) (hO : OB E ci fs a H) (hc : vwCl[ci]? = some (C, T, N)) : ∃ cell : Cell, H[a]? = some cell ∧ cell.vm.isStatics = false ∧ s.vm.findClass C = some cell.cls := va_recv (q := (C, T, N)) hE.K hO hc (q0 := 0) rfl
/-- behind a call that left the heap -/
theorem pk_go {g : JFrame} {v : Value} {a : Array Value} {pc : Nat} {st0 : List Value} (hr : va_Run p l e R s m args below meth c H locs cells slots 0 0 (F0 m pc ls st0) rest (PQ (some v) a) (fun _ => False)) (kk : W p l e R s m args below meth c H locs cells slots Q (F0 m (pc + 3) ls (v :: rest))) : W p l e R s m args below meth c H locs cells slots Q (F0 m pc ls st0) := by
  intro T hT X
  obtain ⟨w, st₀, t, T', L, e0, X', hL, e1, e2, hq, hgo⟩ := hr T hT X
  obtain ⟨q1, q2⟩ := hq
  have hw : w = some v := by injection q1
  subst hw
  have hL0 : L = [] := by
    cases L with
    | nil => rfl
    | cons x xs => exact absurd (hL x List.mem_cons_self) (fun h => h)
  subst hL0
  rw [List.append_nil] at X'
  obtain ⟨t2, a1, b1⟩ := kk T' (by rw [e1, q2, e0]) X'
  exact ⟨t2, hgo t2 a1, b1⟩
theorem pk_goU {g : JFrame} {a : Array Value} {pc : Nat} {st0 : List Value} (hr : va_Run p l e R s m args below meth c H locs cells slots 0 0 (F0 m pc ls st0) rest (PQ none a) (fun _ => False)) (kk : W p l e R s m args below meth c H locs cells slots Q (F0 m (pc + 3) ls rest)) : W p l e R s m args below meth c H locs cells slots Q (F0 m pc ls st0) := by
  intro T hT X
  obtain ⟨w, st₀, t, T', L, e0, X', hL, e1, e2, hq, hgo⟩ := hr T hT X
  obtain ⟨q1, q2⟩ := hq
  have hw : w = none := by injection q1
  subst hw
  have hL0 : L = [] := by
    cases L with
    | nil => rfl
    | cons x xs => exact absurd (hL x List.mem_cons_self) (fun h => h)
  subst hL0
  rw [List.append_nil] at X'
  obtain ⟨t2, a1, b1⟩ := kk T' (by rw [e1, q2, e0]) X'
  exact ⟨t2, hgo t2 a1, b1⟩
end STP
end
section
section STP2
variable {p : Program} {e : Env} {R : Room} {s : State} {m : MethodId} {args : Array Value} {below : List Frame} {meth : Method} {c : Code} {H H0 : Heap} {locs : List Loc} {cells slots : Nat} {Q : State → Prop}
variable {cc : ByteArray} {pc nL : Nat} {ls : Array Slot} {rest st0 : List Value} {E : ET} {own : String}
variable {idx k k' mc ms n mL a ci N : Nat} {y : MethodName} {b : ByteArray} {ret : Option FieldType} {As : List Value} {v : Value} {fs : List Value} {T : u_T}
/-- a virtual call of a method that leaves the heap -/
theorem pV (hx : p.tables.exec = Jvm.exec) (hb : c.code = cc) (hml : c.maxLocals = nL) (hts : ∀ w ∈ Tw, w.before args s = true) (hown : s.vm.findClass own = some m.cls) (hE : EV E s H) (kw : kwV own idx y b mL ret n) (hM : PCon E y b mL ret k' (.ref a :: As) H (some v)) (hO : OB E ci fs a H) (hc : vwCl[ci]? = some (y.cls, T, N)) (hk : k' + 1 ≤ k) (hn : As.length = n) (hl : ls.size = nL) (hst : st0 = As.reverse ++ .ref a :: rest) (hW : (rest.map fun v => v.category).sum ≤ 8) (hcs : cells ≤ mc) (hss : slots ≤ ms) (hdg : decode cc pc = .ok (.invokevirtual idx, 3))
    (kk : W p (eL E) e (rmk k mc ms) s m args below meth c H locs cells slots Q (F0 m (pc + 3) ls (v :: rest))) : W p (eL E) e (rmk k mc ms) s m args below meth c H locs cells slots Q (F0 m pc ls st0) := by
  refine pk_go (g := F0 m pc ls st0) (va_runV (As := As) (rest := rest) ⟨hx, hb, hml, hown, hts⟩ hM (cwV9 hts kw hk) ⟨PC.blind, recv9 hE hO hc, fun U hU hW => ⟨rfl, hU, by rw [hU]; exact hE.warm hW⟩⟩ rfl hn hl hst (lv_room hW) hdg ⟨hcs, hss⟩) kk
theorem pVU (hx : p.tables.exec = Jvm.exec) (hb : c.code = cc) (hml : c.maxLocals = nL) (hts : ∀ w ∈ Tw, w.before args s = true) (hown : s.vm.findClass own = some m.cls) (hE : EV E s H) (kw : kwV own idx y b mL ret n) (hM : PCon E y b mL ret k' (.ref a :: As) H none) (hO : OB E ci fs a H) (hc : vwCl[ci]? = some (y.cls, T, N)) (hk : k' + 1 ≤ k) (hn : As.length = n) (hl : ls.size = nL) (hst : st0 = As.reverse ++ .ref a :: rest) (hW : (rest.map fun v => v.category).sum ≤ 8) (hcs : cells ≤ mc) (hss : slots ≤ ms) (hdg : decode cc pc = .ok (.invokevirtual idx, 3))
    (kk : W p (eL E) e (rmk k mc ms) s m args below meth c H locs cells slots Q (F0 m (pc + 3) ls rest)) : W p (eL E) e (rmk k mc ms) s m args below meth c H locs cells slots Q (F0 m pc ls st0) := by
  refine pk_goU (g := F0 m pc ls st0) (va_runV (As := As) (rest := rest) ⟨hx, hb, hml, hown, hts⟩ hM (cwV9 hts kw hk) ⟨PC.blind, recv9 hE hO hc, fun U hU hW => ⟨rfl, hU, by rw [hU]; exact hE.warm hW⟩⟩ rfl hn hl hst (lv_room hW) hdg ⟨hcs, hss⟩) kk
/-- a static call of a method that leaves the heap -/
theorem pS (hx : p.tables.exec = Jvm.exec) (hb : c.code = cc) (hml : c.maxLocals = nL) (hts : ∀ w ∈ Tw, w.before args s = true) (hown : s.vm.findClass own = some m.cls) (hE : EV E s H) (kw : kwS own idx y b mL ret n) (hM : PCon E y b mL ret k' As H (some v)) (hk : k' + 1 ≤ k) (hn : As.length = n) (hl : ls.size = nL) (hst : st0 = As.reverse ++ rest) (hW : (rest.map fun v => v.category).sum ≤ 8) (hcs : cells ≤ mc) (hss : slots ≤ ms) (hdg : decode cc pc = .ok (.invokestatic idx, 3))
    (kk : W p (eL E) e (rmk k mc ms) s m args below meth c H locs cells slots Q (F0 m (pc + 3) ls (v :: rest))) : W p (eL E) e (rmk k mc ms) s m args below meth c H locs cells slots Q (F0 m pc ls st0) := by
  refine pk_go (g := F0 m pc ls st0) (va_runS (As := As) (rest := rest) ⟨hx, hb, hml, hown, hts⟩ hM (cwS9 hts kw hk) ⟨PC.blind, fun U hU hW => ⟨rfl, hU, by rw [hU]; exact hE.warm hW⟩⟩ rfl hn hl hst (lv_room hW) hdg ⟨hcs, hss⟩) kk
/-! arrays, casts -/
theorem aI {f : Nat → Int32} {j : Nat} {i v : Int32} (hx : p.tables.exec = Jvm.exec) (hb : c.code = cc) (hE : EV E s H) (hA : IA E n f a H) (hi : i = nI j) (hj : j < n) (hn : n < 2 ^ 31) (hv : f j = v) (hdg : decode cc pc = .ok (.iaload, 1))
    (kk : W p (eL E) e R s m args below meth c H locs cells slots Q (F0 m (pc + 1) ls (.int v :: rest))) : W p (eL E) e R s m args below meth c H locs cells slots Q (F0 m pc ls (.int i :: .ref a :: rest)) := by
  subst hi hv
  refine va_iald hx hb hE.K hA 0 0 rfl rfl (vp_in_nI hj hn) hdg ?_
  rw [nI_clamp (by omega)]
  exact kk
theorem aZ {f : Nat → Int32} {j : Nat} {i v : Int32} (hx : p.tables.exec = Jvm.exec) (hb : c.code = cc) (hE : EV E s H) (hA : ZA E n f a H) (hi : i = nI j) (hj : j < n) (hn : n < 2 ^ 31) (hv : f j = v) (hdg : decode cc pc = .ok (.baload, 1))
    (kk : W p (eL E) e R s m args below meth c H locs cells slots Q (F0 m (pc + 1) ls (.int v :: rest))) : W p (eL E) e R s m args below meth c H locs cells slots Q (F0 m pc ls (.int i :: .ref a :: rest)) := by
  subst hi hv
  refine va_zald hx hb hE.K hA 0 1 rfl rfl (vp_in_nI hj hn) hdg ?_
  rw [nI_clamp (by omega)]
  exact kk
theorem aQ {f : Nat → Option Nat} {j q : Nat} {i : Int32} (hx : p.tables.exec = Jvm.exec) (hb : c.code = cc) (hE : EV E s H) (hA : QA E n f a H) (hi : i = nI j) (hj : j < n) (hn : n < 2 ^ 31) (hv : f j = some q) (hdg : decode cc pc = .ok (.aaload, 1))
    (kk : W p (eL E) e R s m args below meth c H locs cells slots Q (F0 m (pc + 1) ls (.ref q :: rest))) : W p (eL E) e R s m args below meth c H locs cells slots Q (F0 m pc ls (.int i :: .ref a :: rest)) := by
  subst hi
  refine va_aldq hx hb hE.K hA 0 2 rfl rfl (vp_in_nI hj hn) hdg ?_
  rw [nI_clamp (by omega), hv]
  exact kk
theorem aLI {f : Nat → Int32} (hx : p.tables.exec = Jvm.exec) (hb : c.code = cc) (hE : EV E s H) (hA : IA E n f a H) (hdg : decode cc pc = .ok (.arraylength, 1))
    (kk : W p (eL E) e R s m args below meth c H locs cells slots Q (F0 m (pc + 1) ls (.int (nI n) :: rest))) : W p (eL E) e R s m args below meth c H locs cells slots Q (F0 m pc ls (.ref a :: rest)) := va_alen hx hb hE.K hA 0 0 rfl rfl rfl hdg kk
theorem aLQ {f : Nat → Option Nat} (hx : p.tables.exec = Jvm.exec) (hb : c.code = cc) (hE : EV E s H) (hA : QA E n f a H) (hdg : decode cc pc = .ok (.arraylength, 1))
    (kk : W p (eL E) e R s m args below meth c H locs cells slots Q (F0 m (pc + 1) ls (.int (nI n) :: rest))) : W p (eL E) e R s m args below meth c H locs cells slots Q (F0 m pc ls (.ref a :: rest)) := va_alen hx hb hE.K hA 0 2 rfl rfl rfl hdg kk
theorem cst {idx : Nat} {fs : List Value} {C : String} {T : u_T} {N ci a : Nat} (hx : p.tables.exec = Jvm.exec) (hb : c.code = cc) (hts : ∀ w ∈ Tw, w.before args s = true) (hown : s.vm.findClass own = some m.cls) (hE : EV E s H) (hw : Cond.classLink own idx C ∈ Tw) (hO : OB E ci fs a H) (hc : vwCl[ci]? = some (C, T, N)) (hdg : decode cc pc = .ok (.checkcast idx, 3))
    (kk : W p (eL E) e R s m args below meth c H locs cells slots Q (F0 m (pc + 3) ls (.ref a :: rest))) : W p (eL E) e R s m args below meth c H locs cells slots Q (F0 m pc ls (.ref a :: rest)) :=
  va_castS hx hb hown (hts _ hw) (hE.K.1 ci _ hc).2 (recv9 hE hO hc) hdg kk
end STP2
end
section
theorem iwJx4a65c : ∀ w ∈ u_ws RJx4a65c TJx4a65c 3, w ∈ Tw := List.forall_mem_cons.mpr ⟨qw1_65, List.forall_mem_cons.mpr ⟨qw1_61, List.forall_mem_cons.mpr ⟨qw1_63, fun _ h => absurd h List.not_mem_nil⟩⟩⟩
theorem iwX0 : ∀ w ∈ u_ws RX0 TX0 2, w ∈ Tw := List.forall_mem_cons.mpr ⟨qw1_74, List.forall_mem_cons.mpr ⟨qw1_76, fun _ h => absurd h List.not_mem_nil⟩⟩
theorem iwX1 : ∀ w ∈ u_ws RX1 TX1 1, w ∈ Tw := List.forall_mem_cons.mpr ⟨qw1_69, fun _ h => absurd h List.not_mem_nil⟩
theorem iwX2 : ∀ w ∈ u_ws RX2 TX2 2, w ∈ Tw := List.forall_mem_cons.mpr ⟨qw2_19, List.forall_mem_cons.mpr ⟨qw2_21, fun _ h => absurd h List.not_mem_nil⟩⟩
theorem iwX3 : ∀ w ∈ u_ws RX3 TX3 13, w ∈ Tw := List.forall_mem_cons.mpr ⟨qw2_181, List.forall_mem_cons.mpr ⟨qw2_183, List.forall_mem_cons.mpr ⟨qw2_185, List.forall_mem_cons.mpr ⟨qw2_187, List.forall_mem_cons.mpr ⟨qw2_189, List.forall_mem_cons.mpr ⟨qw2_191, List.forall_mem_cons.mpr ⟨qw2_193, List.forall_mem_cons.mpr ⟨qw2_195, List.forall_mem_cons.mpr ⟨qw2_197, List.forall_mem_cons.mpr ⟨qw2_199, List.forall_mem_cons.mpr ⟨qw2_201, List.forall_mem_cons.mpr ⟨qw2_203, List.forall_mem_cons.mpr ⟨qw2_205, fun _ h => absurd h List.not_mem_nil⟩⟩⟩⟩⟩⟩⟩⟩⟩⟩⟩⟩⟩
theorem iwX4 : ∀ w ∈ u_ws RX4 TX4 3, w ∈ Tw := List.forall_mem_cons.mpr ⟨qw1_86, List.forall_mem_cons.mpr ⟨qw1_88, List.forall_mem_cons.mpr ⟨qw1_90, fun _ h => absurd h List.not_mem_nil⟩⟩⟩
theorem iwX5 : ∀ w ∈ u_ws RX5 TX5 24, w ∈ Tw := List.forall_mem_cons.mpr ⟨qw3_189, List.forall_mem_cons.mpr ⟨qw3_191, List.forall_mem_cons.mpr ⟨qw3_193, List.forall_mem_cons.mpr ⟨qw3_195, List.forall_mem_cons.mpr ⟨qw3_197, List.forall_mem_cons.mpr ⟨qw3_199, List.forall_mem_cons.mpr ⟨qw3_201, List.forall_mem_cons.mpr ⟨qw3_203, List.forall_mem_cons.mpr ⟨qw3_205, List.forall_mem_cons.mpr ⟨qw3_207, List.forall_mem_cons.mpr ⟨qw3_209, List.forall_mem_cons.mpr ⟨qw3_211, List.forall_mem_cons.mpr ⟨qw3_213, List.forall_mem_cons.mpr ⟨qw3_215, List.forall_mem_cons.mpr ⟨qw3_217, List.forall_mem_cons.mpr ⟨qw3_219, List.forall_mem_cons.mpr ⟨qw3_221, List.forall_mem_cons.mpr ⟨qw3_223, List.forall_mem_cons.mpr ⟨qw3_225, List.forall_mem_cons.mpr ⟨qw3_227, List.forall_mem_cons.mpr ⟨qw3_229, List.forall_mem_cons.mpr ⟨qw3_231, List.forall_mem_cons.mpr ⟨qw3_233, List.forall_mem_cons.mpr ⟨qw3_235, fun _ h => absurd h List.not_mem_nil⟩⟩⟩⟩⟩⟩⟩⟩⟩⟩⟩⟩⟩⟩⟩⟩⟩⟩⟩⟩⟩⟩⟩⟩
theorem kwL_83 : kwI RL 83 yX4_init cX4_init 1 0 := ⟨qw1_24, qw1_25, qw1_1, qw1_26, ⟨by decide, by decide, by decide +kernel⟩, Nat.le_of_ble_eq_true rfl, rfl⟩
theorem kwX4_9 : kwI RX4 9 yX0_init cX0_init 1 0 := ⟨qw1_32, qw1_33, qw1_2, qw1_34, ⟨by decide, by decide, by decide +kernel⟩, Nat.le_of_ble_eq_true rfl, rfl⟩
theorem kwX0_11 : kwI RX0 11 yX1_init cX1_init 1 0 := ⟨qw1_38, qw1_39, qw1_3, qw1_40, ⟨by decide, by decide, by decide +kernel⟩, Nat.le_of_ble_eq_true rfl, rfl⟩
theorem kwX1_11 : kwI RX1 11 yJx4a65c_init_da8c8 cJx4a65c_init_da8c8 1 0 := ⟨qw1_44, qw1_45, qw1_6, qw1_46, ⟨by decide, by decide, by decide +kernel⟩, Nat.le_of_ble_eq_true rfl, rfl⟩
theorem kwJx4a65c_1 : kwI RJx4a65c 1 yJxc12de_init_da8c8 cJxc12de_init_da8c8 1 0 := ⟨qw1_47, qw1_48, qw1_5, qw1_49, ⟨by decide, by decide, by decide +kernel⟩, Nat.le_of_ble_eq_true rfl, rfl⟩
theorem kwJxc12de_1 : kwI RJxc12de 1 yJxa1e45_init_da8c8 cJxa1e45_init_da8c8 1 0 := ⟨qw1_50, qw1_51, qw1_4, qw1_52, ⟨by decide, by decide, by decide +kernel⟩, Nat.le_of_ble_eq_true rfl, rfl⟩
theorem lkJx4a65c_9 : LK RJx4a65c 9 RJx4a65c TJx4a65c 3 0 1 "java/util/ArrayList" := ⟨iwJx4a65c, rfl, Nat.le_of_ble_eq_true rfl, qw1_56, Or.inl rfl⟩
theorem lkJx4a65c_48 : LK RJx4a65c 48 RJx4a65c TJx4a65c 3 0 2 "java/util/ArrayList" := ⟨iwJx4a65c, rfl, Nat.le_of_ble_eq_true rfl, qw1_57, Or.inl rfl⟩
theorem lkJxc12de_7 : LK RJxc12de 7 RJx4a65c TJx4a65c 3 0 0 "java/util/AbstractList" := ⟨iwJx4a65c, rfl, Nat.le_of_ble_eq_true rfl, qw1_58, Or.inl rfl⟩
theorem lkJx4a65c_63 : LK RJx4a65c 63 RJx4a65c TJx4a65c 3 0 0 "java/util/ArrayList" := ⟨iwJx4a65c, rfl, Nat.le_of_ble_eq_true rfl, qw1_59, Or.inr qw1_60⟩
theorem lkX1_12 : LK RX1 12 RX1 TX1 1 2 0 "Resetline$Diary" := ⟨iwX1, rfl, Nat.le_of_ble_eq_true rfl, qw1_68, Or.inl rfl⟩
theorem lkX0_12 : LK RX0 12 RX0 TX0 2 1 0 "Resetline$Calendar" := ⟨iwX0, rfl, Nat.le_of_ble_eq_true rfl, qw1_72, Or.inl rfl⟩
theorem lkX0_18 : LK RX0 18 RX0 TX0 2 1 1 "Resetline$Calendar" := ⟨iwX0, rfl, Nat.le_of_ble_eq_true rfl, qw1_73, Or.inl rfl⟩
theorem kwX4_18 : kwI RX4 18 yX1_init cX1_init 1 0 := ⟨qw1_80, qw1_39, qw1_3, qw1_40, ⟨by decide, by decide, by decide +kernel⟩, Nat.le_of_ble_eq_true rfl, rfl⟩
theorem kwX4_25 : kwI RX4 25 yJx4a65c_init_da8c8 cJx4a65c_init_da8c8 1 0 := ⟨qw1_82, qw1_45, qw1_6, qw1_46, ⟨by decide, by decide, by decide +kernel⟩, Nat.le_of_ble_eq_true rfl, rfl⟩
theorem lkX4_10 : LK RX4 10 RX4 TX4 3 5 0 "Resetline" := ⟨iwX4, rfl, Nat.le_of_ble_eq_true rfl, qw1_83, Or.inl rfl⟩
theorem lkX4_19 : LK RX4 19 RX4 TX4 3 5 1 "Resetline" := ⟨iwX4, rfl, Nat.le_of_ble_eq_true rfl, qw1_84, Or.inl rfl⟩
theorem lkX4_26 : LK RX4 26 RX4 TX4 3 5 2 "Resetline" := ⟨iwX4, rfl, Nat.le_of_ble_eq_true rfl, qw1_85, Or.inl rfl⟩
theorem kwL_128 : kwV RL 128 yX4_trades cX4_trades 1 (some FieldType.int) 0 := ⟨qw1_93, qw1_94, qw1_95, qw1_1, qw1_96, ⟨by decide, by decide, by decide +kernel⟩, Nat.le_of_ble_eq_true rfl⟩
theorem kwX4_85 : kwV RX4 85 yJx4a65c_size_8abf5 cJx4a65c_size_8abf5 1 (some FieldType.int) 0 := ⟨qw1_97, qw1_98, qw1_99, qw1_6, qw1_100, ⟨by decide, by decide, by decide +kernel⟩, Nat.le_of_ble_eq_true rfl⟩
theorem kwL_7 : kwV RL 7 yX4_holiday cX4_holiday 4 (some FieldType.int) 2 := ⟨qw1_107, qw1_108, qw1_109, qw1_1, qw1_110, ⟨by decide, by decide, by decide +kernel⟩, Nat.le_of_ble_eq_true rfl⟩
theorem kwX4_37 : kwS RX4 37 yX4_checkRange cX4_checkRange 3 (none : Option FieldType) 3 := ⟨qw1_179, qw1_180, qw1_1, qw1_181, ⟨by decide, by decide, by decide +kernel⟩, Nat.le_of_ble_eq_true rfl⟩
theorem kwX4_41 : kwV RX4 41 yX0_holidaysOf cX0_holidaysOf 2 (some (FieldType.object "Resetline$Diary")) 1 := ⟨qw1_198, qw1_199, qw1_200, qw1_2, qw1_201, ⟨by decide, by decide, by decide +kernel⟩, Nat.le_of_ble_eq_true rfl⟩
theorem kwX4_45 : kwV RX4 45 yX1_count cX1_count 1 (some FieldType.int) 0 := ⟨qw1_202, qw1_203, qw1_204, qw1_3, qw1_205, ⟨by decide, by decide, by decide +kernel⟩, Nat.le_of_ble_eq_true rfl⟩
theorem kwX1_18 : kwV RX1 18 yJx4a65c_size_8abf5 cJx4a65c_size_8abf5 1 (some FieldType.int) 0 := ⟨qw1_206, qw1_98, qw1_99, qw1_6, qw1_100, ⟨by decide, by decide, by decide +kernel⟩, Nat.le_of_ble_eq_true rfl⟩
theorem kwX4_49 : kwV RX4 49 yX1_has cX1_has 2 (some FieldType.boolean) 1 := ⟨qw1_207, qw1_208, qw1_209, qw1_3, qw1_210, ⟨by decide, by decide, by decide +kernel⟩, Nat.le_of_ble_eq_true rfl⟩
theorem kwX1_22 : kwV RX1 22 yX1_entryOf cX1_entryOf 4 (some (FieldType.object "Resetline$Entry")) 1 := ⟨qw1_211, qw1_213, qp1, qw1_3, qw1_214, ⟨by decide, by decide, by decide +kernel⟩, Nat.le_of_ble_eq_true rfl⟩
theorem kwX1_41 : kwV RX1 41 yJx4a65c_get_915e3 cJx4a65c_get_915e3 2 (some (FieldType.object "java/lang/Object")) 1 := ⟨qw1_215, qw1_216, qw1_217, qw1_6, qw1_218, ⟨by decide, by decide, by decide +kernel⟩, Nat.le_of_ble_eq_true rfl⟩
theorem kwJx4a65c_118 : kwS RJx4a65c 118 yJ15_checkIndex_7cf53 cJ15_checkIndex_7cf53 2 (some FieldType.int) 2 := ⟨qw1_219, qw1_220, qw1_13, qw1_221, ⟨by decide, by decide, by decide +kernel⟩, Nat.le_of_ble_eq_true rfl⟩
theorem kwJ15_105 : kwS RJ15 105 yJ3_checkIndex_8e157 cJ3_checkIndex_8e157 3 (some FieldType.int) 3 := ⟨qw1_222, qw1_223, qw1_14, qw1_224, ⟨by decide, by decide, by decide +kernel⟩, Nat.le_of_ble_eq_true rfl⟩
theorem kwJx4a65c_123 : kwV RJx4a65c 123 yJx4a65c_elementData_915e3 cJx4a65c_elementData_915e3 2 (some (FieldType.object "java/lang/Object")) 1 := ⟨qw1_225, qw1_226, qw1_227, qw1_6, qw1_228, ⟨by decide, by decide, by decide +kernel⟩, Nat.le_of_ble_eq_true rfl⟩
theorem kwX4_58 : kwV RX4 58 yX1_add cX1_add 3 (none : Option FieldType) 2 := ⟨qw2_6, qw2_7, qw2_8, qw1_3, qw2_9, ⟨by decide, by decide, by decide +kernel⟩, Nat.le_of_ble_eq_true rfl⟩
theorem kwX1_28 : kwI RX1 28 yX2_init cX2_init 3 2 := ⟨qw2_11, qw2_12, qw1_16, qw2_13, ⟨by decide, by decide, by decide +kernel⟩, Nat.le_of_ble_eq_true rfl, rfl⟩
theorem lkX2_7 : LK RX2 7 RX2 TX2 2 3 0 "Resetline$Entry" := ⟨iwX2, rfl, Nat.le_of_ble_eq_true rfl, qw2_15, Or.inl rfl⟩
theorem lkX1_45 : LK RX1 45 RX2 TX2 2 3 0 "Resetline$Entry" := ⟨iwX2, rfl, Nat.le_of_ble_eq_true rfl, qw2_16, Or.inl rfl⟩
theorem lkX2_13 : LK RX2 13 RX2 TX2 2 3 1 "Resetline$Entry" := ⟨iwX2, rfl, Nat.le_of_ble_eq_true rfl, qw2_17, Or.inl rfl⟩
theorem lkX1_37 : LK RX1 37 RX2 TX2 2 3 1 "Resetline$Entry" := ⟨iwX2, rfl, Nat.le_of_ble_eq_true rfl, qw2_18, Or.inl rfl⟩
theorem kwX1_31 : kwV RX1 31 yJx4a65c_add_9ea2d cJx4a65c_add_9ea2d 2 (some FieldType.boolean) 1 := ⟨qw2_24, qw2_25, qw2_26, qw1_6, qw2_27, ⟨by decide, by decide, by decide +kernel⟩, Nat.le_of_ble_eq_true rfl⟩
theorem kwJx4a65c_131 : kwV RJx4a65c 131 yJx4a65c_add_72be8 cJx4a65c_add_72be8 4 (none : Option FieldType) 3 := ⟨qw2_28, qw2_30, qp2, qw1_6, qw2_31, ⟨by decide, by decide, by decide +kernel⟩, Nat.le_of_ble_eq_true rfl⟩
theorem kwJx4a65c_129 : kwV RJx4a65c 129 yJx4a65c_grow_d5877 cJx4a65c_grow_d5877 1 (some (FieldType.array (FieldType.object "java/lang/Object"))) 0 := ⟨qw2_32, qw2_34, qp3, qw1_6, qw2_35, ⟨by decide, by decide, by decide +kernel⟩, Nat.le_of_ble_eq_true rfl⟩
theorem kwJx4a65c_69 : kwV RJx4a65c 69 yJx4a65c_grow_92f84 cJx4a65c_grow_92f84 4 (some (FieldType.array (FieldType.object "java/lang/Object"))) 1 := ⟨qw2_36, qw2_38, qp4, qw1_6, qw2_39, ⟨by decide, by decide, by decide +kernel⟩, Nat.le_of_ble_eq_true rfl⟩
theorem kwJx4a65c_73 : kwS RJx4a65c 73 yJ8_newLength_cabcc cJ8_newLength_cabcc 4 (some FieldType.int) 3 := ⟨qw2_40, qw2_41, qw1_17, qw2_42, ⟨by decide, by decide, by decide +kernel⟩, Nat.le_of_ble_eq_true rfl⟩
theorem kwJ8_194 : kwS RJ8 194 yJ9_max_7cf53 cJ9_max_7cf53 2 (some FieldType.int) 2 := ⟨qw2_43, qw2_44, qw1_18, qw2_45, ⟨by decide, by decide, by decide +kernel⟩, Nat.le_of_ble_eq_true rfl⟩
theorem kwJ8_201 : kwS RJ8 201 yJ8_hugeLength_7cf53 cJ8_hugeLength_7cf53 3 (some FieldType.int) 2 := ⟨qw2_47, qw2_48, qw1_17, qw2_49, ⟨by decide, by decide, by decide +kernel⟩, Nat.le_of_ble_eq_true rfl⟩
theorem kwJx4a65c_66 : kwS RJx4a65c 66 yJ7_copyOf_1904c cJ7_copyOf_1904c 2 (some (FieldType.array (FieldType.object "java/lang/Object"))) 2 := ⟨qw2_50, qw2_51, qw1_19, qw2_52, ⟨by decide, by decide, by decide +kernel⟩, Nat.le_of_ble_eq_true rfl⟩
theorem kwJ7_300 : kwS RJ7 300 yJ7_copyOf_6403c cJ7_copyOf_6403c 4 (some (FieldType.array (FieldType.object "java/lang/Object"))) 3 := ⟨qw2_67, qw2_68, qw1_19, qw2_69, ⟨by decide, by decide, by decide +kernel⟩, Nat.le_of_ble_eq_true rfl⟩
theorem kwJ7_304 : kwS RJ7 304 yJ9_min_7cf53 cJ9_min_7cf53 2 (some FieldType.int) 2 := ⟨qw2_73, qw2_74, qw1_18, qw2_75, ⟨by decide, by decide, by decide +kernel⟩, Nat.le_of_ble_eq_true rfl⟩
theorem kwJx4a65c_79 : kwS RJx4a65c 79 yJ9_max_7cf53 cJ9_max_7cf53 2 (some FieldType.int) 2 := ⟨qw2_79, qw2_44, qw1_18, qw2_45, ⟨by decide, by decide, by decide +kernel⟩, Nat.le_of_ble_eq_true rfl⟩
theorem kwX4_62 : kwV RX4 62 yX4_rollAllTrades cX4_rollAllTrades 2 (none : Option FieldType) 0 := ⟨qw2_81, qw2_83, qp5, qw1_1, qw2_84, ⟨by decide, by decide, by decide +kernel⟩, Nat.le_of_ble_eq_true rfl⟩
theorem kwX4_134 : kwV RX4 134 yJx4a65c_get_915e3 cJx4a65c_get_915e3 2 (some (FieldType.object "java/lang/Object")) 1 := ⟨qw2_85, qw1_216, qw1_217, qw1_6, qw1_218, ⟨by decide, by decide, by decide +kernel⟩, Nat.le_of_ble_eq_true rfl⟩
theorem kwX4_95 : kwV RX4 95 yX3_rollDays cX3_rollDays 3 (none : Option FieldType) 1 := ⟨qw2_87, qw2_88, qw2_89, qw1_21, qw2_90, ⟨by decide, by decide, by decide +kernel⟩, Nat.le_of_ble_eq_true rfl⟩
theorem kwX3_57 : kwV RX3 57 yX0_rolledDayOf cX0_rolledDayOf 4 (some FieldType.int) 1 := ⟨qw2_91, qw2_92, qw2_93, qw1_2, qw2_94, ⟨by decide, by decide, by decide +kernel⟩, Nat.le_of_ble_eq_true rfl⟩
theorem kwX0_31 : kwV RX0 31 yX0_opensOn cX0_opensOn 2 (some FieldType.boolean) 1 := ⟨qw2_95, qw2_96, qw2_97, qw1_2, qw2_98, ⟨by decide, by decide, by decide +kernel⟩, Nat.le_of_ble_eq_true rfl⟩
theorem kwX0_21 : kwS RX0 21 yJ9_floorMod_7cf53 cJ9_floorMod_7cf53 3 (some FieldType.int) 2 := ⟨qw2_99, qw2_100, qw1_18, qw2_101, ⟨by decide, by decide, by decide +kernel⟩, Nat.le_of_ble_eq_true rfl⟩
theorem kwX0_27 : kwV RX0 27 yX1_has cX1_has 2 (some FieldType.boolean) 1 := ⟨qw2_102, qw1_208, qw1_209, qw1_3, qw1_210, ⟨by decide, by decide, by decide +kernel⟩, Nat.le_of_ble_eq_true rfl⟩
theorem kwL_19 : kwV RL 19 yX4_isOpen cX4_isOpen 2 (some FieldType.boolean) 1 := ⟨qw2_106, qw2_107, qw2_108, qw1_1, qw2_109, ⟨by decide, by decide, by decide +kernel⟩, Nat.le_of_ble_eq_true rfl⟩
theorem kwX4_65 : kwV RX4 65 yX0_opensOn cX0_opensOn 2 (some FieldType.boolean) 1 := ⟨qw2_110, qw2_96, qw2_97, qw1_2, qw2_98, ⟨by decide, by decide, by decide +kernel⟩, Nat.le_of_ble_eq_true rfl⟩
theorem kwL_23 : kwV RL 23 yX4_roll cX4_roll 2 (some FieldType.int) 1 := ⟨qw2_114, qw2_115, qw2_116, qw1_1, qw2_117, ⟨by decide, by decide, by decide +kernel⟩, Nat.le_of_ble_eq_true rfl⟩
theorem kwX4_68 : kwV RX4 68 yX0_rolledDayOf cX0_rolledDayOf 4 (some FieldType.int) 1 := ⟨qw2_118, qw2_92, qw2_93, qw1_2, qw2_94, ⟨by decide, by decide, by decide +kernel⟩, Nat.le_of_ble_eq_true rfl⟩
theorem kwL_27 : kwV RL 27 yX4_fix cX4_fix 3 (some FieldType.int) 2 := ⟨qw2_122, qw2_123, qw2_124, qw1_1, qw2_125, ⟨by decide, by decide, by decide +kernel⟩, Nat.le_of_ble_eq_true rfl⟩
theorem kwX4_74 : kwV RX4 74 yX1_put cX1_put 4 (none : Option FieldType) 2 := ⟨qw2_127, qw2_128, qw2_129, qw1_3, qw2_130, ⟨by decide, by decide, by decide +kernel⟩, Nat.le_of_ble_eq_true rfl⟩
theorem kwX1_35 : kwV RX1 35 yX1_add cX1_add 3 (none : Option FieldType) 2 := ⟨qw2_131, qw2_7, qw2_8, qw1_3, qw2_9, ⟨by decide, by decide, by decide +kernel⟩, Nat.le_of_ble_eq_true rfl⟩
theorem kwL_30 : kwV RL 30 yX4_rateFor cX4_rateFor 2 (some FieldType.int) 1 := ⟨qw2_135, qw2_136, qw2_137, qw1_1, qw2_138, ⟨by decide, by decide, by decide +kernel⟩, Nat.le_of_ble_eq_true rfl⟩
theorem kwX4_77 : kwV RX4 77 yX1_latestValue cX1_latestValue 7 (some FieldType.int) 2 := ⟨qw2_139, qw2_140, qw2_141, qw1_3, qw2_142, ⟨by decide, by decide, by decide +kernel⟩, Nat.le_of_ble_eq_true rfl⟩
theorem kwL_33 : kwV RL 33 yX4_trade cX4_trade 9 (some FieldType.int) 7 := ⟨qw2_146, qw2_147, qw2_148, qw1_1, qw2_149, ⟨by decide, by decide, by decide +kernel⟩, Nat.le_of_ble_eq_true rfl⟩
theorem kwX4_81 : kwS RX4 81 yX4_checkParty cX4_checkParty 1 (none : Option FieldType) 1 := ⟨qw2_150, qw2_151, qw1_1, qw2_152, ⟨by decide, by decide, by decide +kernel⟩, Nat.le_of_ble_eq_true rfl⟩
theorem kwX4_92 : kwI RX4 92 yX3_init cX3_init 8 7 := ⟨qw2_156, qw2_157, qw1_21, qw2_158, ⟨by decide, by decide, by decide +kernel⟩, Nat.le_of_ble_eq_true rfl, rfl⟩
theorem kwX3_45 : kwI RX3 45 yX1_init cX1_init 1 0 := ⟨qw2_161, qw1_39, qw1_3, qw1_40, ⟨by decide, by decide, by decide +kernel⟩, Nat.le_of_ble_eq_true rfl, rfl⟩
theorem lkX3_9 : LK RX3 9 RX3 TX3 13 4 0 "Resetline$Swap" := ⟨iwX3, rfl, Nat.le_of_ble_eq_true rfl, qw2_162, Or.inl rfl⟩
theorem lkX3_15 : LK RX3 15 RX3 TX3 13 4 1 "Resetline$Swap" := ⟨iwX3, rfl, Nat.le_of_ble_eq_true rfl, qw2_163, Or.inl rfl⟩
theorem lkX3_18 : LK RX3 18 RX3 TX3 13 4 2 "Resetline$Swap" := ⟨iwX3, rfl, Nat.le_of_ble_eq_true rfl, qw2_164, Or.inl rfl⟩
theorem lkX3_22 : LK RX3 22 RX3 TX3 13 4 3 "Resetline$Swap" := ⟨iwX3, rfl, Nat.le_of_ble_eq_true rfl, qw2_165, Or.inl rfl⟩
theorem lkX3_25 : LK RX3 25 RX3 TX3 13 4 4 "Resetline$Swap" := ⟨iwX3, rfl, Nat.le_of_ble_eq_true rfl, qw2_166, Or.inl rfl⟩
theorem lkX3_28 : LK RX3 28 RX3 TX3 13 4 5 "Resetline$Swap" := ⟨iwX3, rfl, Nat.le_of_ble_eq_true rfl, qw2_167, Or.inl rfl⟩
theorem lkX3_31 : LK RX3 31 RX3 TX3 13 4 6 "Resetline$Swap" := ⟨iwX3, rfl, Nat.le_of_ble_eq_true rfl, qw2_168, Or.inl rfl⟩
theorem lkX4_190 : LK RX4 190 RX3 TX3 13 4 6 "Resetline$Swap" := ⟨iwX3, rfl, Nat.le_of_ble_eq_true rfl, qw2_169, Or.inl rfl⟩
theorem lkX3_34 : LK RX3 34 RX3 TX3 13 4 7 "Resetline$Swap" := ⟨iwX3, rfl, Nat.le_of_ble_eq_true rfl, qw2_170, Or.inl rfl⟩
theorem lkX4_111 : LK RX4 111 RX3 TX3 13 4 7 "Resetline$Swap" := ⟨iwX3, rfl, Nat.le_of_ble_eq_true rfl, qw2_171, Or.inl rfl⟩
theorem lkX3_37 : LK RX3 37 RX3 TX3 13 4 8 "Resetline$Swap" := ⟨iwX3, rfl, Nat.le_of_ble_eq_true rfl, qw2_172, Or.inl rfl⟩
theorem lkX4_115 : LK RX4 115 RX3 TX3 13 4 8 "Resetline$Swap" := ⟨iwX3, rfl, Nat.le_of_ble_eq_true rfl, qw2_173, Or.inl rfl⟩
theorem lkX3_40 : LK RX3 40 RX3 TX3 13 4 9 "Resetline$Swap" := ⟨iwX3, rfl, Nat.le_of_ble_eq_true rfl, qw2_174, Or.inl rfl⟩
theorem lkX4_118 : LK RX4 118 RX3 TX3 13 4 9 "Resetline$Swap" := ⟨iwX3, rfl, Nat.le_of_ble_eq_true rfl, qw2_175, Or.inl rfl⟩
theorem lkX3_46 : LK RX3 46 RX3 TX3 13 4 10 "Resetline$Swap" := ⟨iwX3, rfl, Nat.le_of_ble_eq_true rfl, qw2_176, Or.inl rfl⟩
theorem lkX4_106 : LK RX4 106 RX3 TX3 13 4 10 "Resetline$Swap" := ⟨iwX3, rfl, Nat.le_of_ble_eq_true rfl, qw2_177, Or.inl rfl⟩
theorem lkX3_50 : LK RX3 50 RX3 TX3 13 4 11 "Resetline$Swap" := ⟨iwX3, rfl, Nat.le_of_ble_eq_true rfl, qw2_178, Or.inl rfl⟩
theorem lkX4_126 : LK RX4 126 RX3 TX3 13 4 11 "Resetline$Swap" := ⟨iwX3, rfl, Nat.le_of_ble_eq_true rfl, qw2_179, Or.inl rfl⟩
theorem lkX3_53 : LK RX3 53 RX3 TX3 13 4 12 "Resetline$Swap" := ⟨iwX3, rfl, Nat.le_of_ble_eq_true rfl, qw2_180, Or.inl rfl⟩
theorem kwX4_99 : kwV RX4 99 yJx4a65c_add_9ea2d cJx4a65c_add_9ea2d 2 (some FieldType.boolean) 1 := ⟨qw2_209, qw2_25, qw2_26, qw1_6, qw2_27, ⟨by decide, by decide, by decide +kernel⟩, Nat.le_of_ble_eq_true rfl⟩
theorem kwL_37 : kwV RL 37 yX4_setTerms cX4_setTerms 6 (none : Option FieldType) 4 := ⟨qw2_213, qw2_214, qw2_215, qw1_1, qw2_216, ⟨by decide, by decide, by decide +kernel⟩, Nat.le_of_ble_eq_true rfl⟩
theorem kwX4_102 : kwV RX4 102 yX4_swapAt cX4_swapAt 2 (some (FieldType.object "Resetline$Swap")) 1 := ⟨qw2_217, qw2_219, qp6, qw1_1, qw2_220, ⟨by decide, by decide, by decide +kernel⟩, Nat.le_of_ble_eq_true rfl⟩
theorem kwL_41 : kwV RL 41 yX4_breakPart cX4_breakPart 5 (some FieldType.int) 3 := ⟨qw2_226, qw2_227, qw2_228, qw1_1, qw2_229, ⟨by decide, by decide, by decide +kernel⟩, Nat.le_of_ble_eq_true rfl⟩
theorem kwX4_121 : kwV RX4 121 yX3_restOfLots cX3_restOfLots 1 (some FieldType.int) 0 := ⟨qw2_230, qw2_231, qw2_232, qw1_21, qw2_233, ⟨by decide, by decide, by decide +kernel⟩, Nat.le_of_ble_eq_true rfl⟩
theorem kwX3_66 : kwV RX3 66 yX1_sumUntil cX1_sumUntil 5 (some FieldType.int) 1 := ⟨qw2_234, qw2_235, qw2_236, qw1_3, qw2_237, ⟨by decide, by decide, by decide +kernel⟩, Nat.le_of_ble_eq_true rfl⟩
theorem kwL_45 : kwV RL 45 yX4_handOver cX4_handOver 6 (some FieldType.int) 3 := ⟨qw3_2, qw3_3, qw3_4, qw1_1, qw3_5, ⟨by decide, by decide, by decide +kernel⟩, Nat.le_of_ble_eq_true rfl⟩
theorem kwX4_131 : kwV RX4 131 yX3_holderOn cX3_holderOn 2 (some FieldType.int) 1 := ⟨qw3_7, qw3_8, qw3_9, qw1_21, qw3_10, ⟨by decide, by decide, by decide +kernel⟩, Nat.le_of_ble_eq_true rfl⟩
theorem kwX3_69 : kwV RX3 69 yX1_latestValue cX1_latestValue 7 (some FieldType.int) 2 := ⟨qw3_11, qw2_140, qw2_141, qw1_3, qw2_142, ⟨by decide, by decide, by decide +kernel⟩, Nat.le_of_ble_eq_true rfl⟩
theorem kwL_48 : kwV RL 48 yX4_press cX4_press 5 (some FieldType.int) 1 := ⟨qw3_15, qw3_16, qw3_17, qw1_1, qw3_18, ⟨by decide, by decide, by decide +kernel⟩, Nat.le_of_ble_eq_true rfl⟩
theorem kwX4_138 : kwS RX4 138 yX4_pressPair cX4_pressPair 4 (some FieldType.int) 3 := ⟨qw3_19, qw3_20, qw1_1, qw3_21, ⟨by decide, by decide, by decide +kernel⟩, Nat.le_of_ble_eq_true rfl⟩
theorem kwX4_195 : kwV RX4 195 yX3_fits cX3_fits 2 (some FieldType.boolean) 1 := ⟨qw3_22, qw3_23, qw3_24, qw1_21, qw3_25, ⟨by decide, by decide, by decide +kernel⟩, Nat.le_of_ble_eq_true rfl⟩
theorem kwX4_199 : kwV RX4 199 yX3_isOfSamePartyFrom cX3_isOfSamePartyFrom 6 (some FieldType.boolean) 2 := ⟨qw3_26, qw3_27, qw3_28, qw1_21, qw3_29, ⟨by decide, by decide, by decide +kernel⟩, Nat.le_of_ble_eq_true rfl⟩
theorem kwX3_63 : kwV RX3 63 yX3_startOf cX3_startOf 2 (some FieldType.int) 1 := ⟨qw3_30, qw3_31, qw3_32, qw1_21, qw3_33, ⟨by decide, by decide, by decide +kernel⟩, Nat.le_of_ble_eq_true rfl⟩
theorem kwX3_95 : kwV RX3 95 yX3_endOf cX3_endOf 2 (some FieldType.int) 1 := ⟨qw3_34, qw3_35, qw3_36, qw1_21, qw3_37, ⟨by decide, by decide, by decide +kernel⟩, Nat.le_of_ble_eq_true rfl⟩
theorem kwX3_98 : kwV RX3 98 yX3_holderOn cX3_holderOn 2 (some FieldType.int) 1 := ⟨qw3_38, qw3_8, qw3_9, qw1_21, qw3_10, ⟨by decide, by decide, by decide +kernel⟩, Nat.le_of_ble_eq_true rfl⟩
theorem kwX4_181 : kwS RX4 181 yJ9_min_7cf53 cJ9_min_7cf53 2 (some FieldType.int) 2 := ⟨qw3_39, qw2_74, qw1_18, qw2_75, ⟨by decide, by decide, by decide +kernel⟩, Nat.le_of_ble_eq_true rfl⟩
theorem kwL_51 : kwV RL 51 yX4_start cX4_start 3 (some FieldType.int) 2 := ⟨qw3_43, qw3_44, qw3_45, qw1_1, qw3_46, ⟨by decide, by decide, by decide +kernel⟩, Nat.le_of_ble_eq_true rfl⟩
theorem kwX4_142 : kwV RX4 142 yX4_swapWithPeriod cX4_swapWithPeriod 4 (some (FieldType.object "Resetline$Swap")) 2 := ⟨qw3_47, qw3_49, qp7, qw1_1, qw3_50, ⟨by decide, by decide, by decide +kernel⟩, Nat.le_of_ble_eq_true rfl⟩
theorem kwX4_146 : kwV RX4 146 yX3_startOf cX3_startOf 2 (some FieldType.int) 1 := ⟨qw3_52, qw3_31, qw3_32, qw1_21, qw3_33, ⟨by decide, by decide, by decide +kernel⟩, Nat.le_of_ble_eq_true rfl⟩
theorem kwL_54 : kwV RL 54 yX4_end cX4_end 3 (some FieldType.int) 2 := ⟨qw3_56, qw3_57, qw3_58, qw1_1, qw3_59, ⟨by decide, by decide, by decide +kernel⟩, Nat.le_of_ble_eq_true rfl⟩
theorem kwX4_149 : kwV RX4 149 yX3_endOf cX3_endOf 2 (some FieldType.int) 1 := ⟨qw3_60, qw3_35, qw3_36, qw1_21, qw3_37, ⟨by decide, by decide, by decide +kernel⟩, Nat.le_of_ble_eq_true rfl⟩
theorem kwL_57 : kwV RL 57 yX4_lots cX4_lots 3 (some FieldType.int) 2 := ⟨qw3_64, qw3_65, qw3_66, qw1_1, qw3_67, ⟨by decide, by decide, by decide +kernel⟩, Nat.le_of_ble_eq_true rfl⟩
theorem kwX4_152 : kwV RX4 152 yX3_lotsOf cX3_lotsOf 2 (some FieldType.int) 1 := ⟨qw3_68, qw3_69, qw3_70, qw1_21, qw3_71, ⟨by decide, by decide, by decide +kernel⟩, Nat.le_of_ble_eq_true rfl⟩
theorem kwL_60 : kwV RL 60 yX4_floating cX4_floating 3 (some FieldType.long) 2 := ⟨qw3_75, qw3_76, qw3_77, qw1_1, qw3_78, ⟨by decide, by decide, by decide +kernel⟩, Nat.le_of_ble_eq_true rfl⟩
theorem kwX4_155 : kwV RX4 155 yX3_floatingOf cX3_floatingOf 12 (some FieldType.long) 2 := ⟨qw3_79, qw3_80, qw3_81, qw1_21, qw3_82, ⟨by decide, by decide, by decide +kernel⟩, Nat.le_of_ble_eq_true rfl⟩
theorem kwX3_73 : kwV RX3 73 yX3_rateOf cX3_rateOf 3 (some FieldType.long) 2 := ⟨qw3_83, qw3_85, qp8, qw1_21, qw3_86, ⟨by decide, by decide, by decide +kernel⟩, Nat.le_of_ble_eq_true rfl⟩
theorem kwX3_77 : kwV RX3 77 yX3_daysOf cX3_daysOf 2 (some FieldType.long) 1 := ⟨qw3_87, qw3_89, qp9, qw1_21, qw3_90, ⟨by decide, by decide, by decide +kernel⟩, Nat.le_of_ble_eq_true rfl⟩
theorem kwX3_83 : kwS RX3 83 yJ9_floorDiv_f86c9 cJ9_floorDiv_f86c9 6 (some FieldType.long) 2 := ⟨qw3_92, qw3_93, qw1_18, qw3_94, ⟨by decide, by decide, by decide +kernel⟩, Nat.le_of_ble_eq_true rfl⟩
theorem kwL_64 : kwV RL 64 yX4_flow cX4_flow 3 (some FieldType.long) 2 := ⟨qw3_98, qw3_99, qw3_100, qw1_1, qw3_101, ⟨by decide, by decide, by decide +kernel⟩, Nat.le_of_ble_eq_true rfl⟩
theorem kwX4_159 : kwV RX4 159 yX3_flowOf cX3_flowOf 5 (some FieldType.long) 2 := ⟨qw3_102, qw3_103, qw3_104, qw1_21, qw3_105, ⟨by decide, by decide, by decide +kernel⟩, Nat.le_of_ble_eq_true rfl⟩
theorem kwX3_89 : kwV RX3 89 yX3_floatingOf cX3_floatingOf 12 (some FieldType.long) 2 := ⟨qw3_106, qw3_80, qw3_81, qw1_21, qw3_82, ⟨by decide, by decide, by decide +kernel⟩, Nat.le_of_ble_eq_true rfl⟩
theorem kwX3_92 : kwV RX3 92 yX3_lotsOf cX3_lotsOf 2 (some FieldType.int) 1 := ⟨qw3_107, qw3_69, qw3_70, qw1_21, qw3_71, ⟨by decide, by decide, by decide +kernel⟩, Nat.le_of_ble_eq_true rfl⟩
theorem kwL_67 : kwV RL 67 yX4_partyOn cX4_partyOn 4 (some FieldType.int) 2 := ⟨qw3_111, qw3_112, qw3_113, qw1_1, qw3_114, ⟨by decide, by decide, by decide +kernel⟩, Nat.le_of_ble_eq_true rfl⟩
theorem kwL_70 : kwV RL 70 yX4_cash cX4_cash 3 (some FieldType.long) 2 := ⟨qw3_118, qw3_119, qw3_120, qw1_1, qw3_121, ⟨by decide, by decide, by decide +kernel⟩, Nat.le_of_ble_eq_true rfl⟩
theorem kwX4_162 : kwV RX4 162 yX4_cashOnDay cX4_cashOnDay 6 (some FieldType.long) 2 := ⟨qw3_122, qw3_124, qp10, qw1_1, qw3_125, ⟨by decide, by decide, by decide +kernel⟩, Nat.le_of_ble_eq_true rfl⟩
theorem kwX4_169 : kwV RX4 169 yX3_cashOf cX3_cashOf 9 (some FieldType.long) 4 := ⟨qw3_126, qw3_127, qw3_128, qw1_21, qw3_129, ⟨by decide, by decide, by decide +kernel⟩, Nat.le_of_ble_eq_true rfl⟩
theorem kwX3_101 : kwV RX3 101 yX3_flowOf cX3_flowOf 5 (some FieldType.long) 2 := ⟨qw3_130, qw3_103, qw3_104, qw1_21, qw3_105, ⟨by decide, by decide, by decide +kernel⟩, Nat.le_of_ble_eq_true rfl⟩
theorem kwL_73 : kwV RL 73 yX4_cashOfDays cX4_cashOfDays 7 (some FieldType.long) 3 := ⟨qw3_134, qw3_135, qw3_136, qw1_1, qw3_137, ⟨by decide, by decide, by decide +kernel⟩, Nat.le_of_ble_eq_true rfl⟩
theorem kwX4_166 : kwS RX4 166 yX4_checkSpan cX4_checkSpan 2 (none : Option FieldType) 2 := ⟨qw3_138, qw3_139, qw1_1, qw3_140, ⟨by decide, by decide, by decide +kernel⟩, Nat.le_of_ble_eq_true rfl⟩
theorem kwL_77 : kwV RL 77 yX4_cashByTrades cX4_cashByTrades 7 (some FieldType.long) 3 := ⟨qw3_144, qw3_145, qw3_146, qw1_1, qw3_147, ⟨by decide, by decide, by decide +kernel⟩, Nat.le_of_ble_eq_true rfl⟩
theorem kwL_80 : kwV RL 80 yX4_nextFlow cX4_nextFlow 6 (some FieldType.int) 2 := ⟨qw3_151, qw3_152, qw3_153, qw1_1, qw3_154, ⟨by decide, by decide, by decide +kernel⟩, Nat.le_of_ble_eq_true rfl⟩
theorem kwX4_173 : kwV RX4 173 yX3_nextPayDay cX3_nextPayDay 5 (some FieldType.int) 2 := ⟨qw3_155, qw3_156, qw3_157, qw1_21, qw3_158, ⟨by decide, by decide, by decide +kernel⟩, Nat.le_of_ble_eq_true rfl⟩
theorem kwL_86 : kwI RL 86 yX5_init cX5_init 1 0 := ⟨qw3_161, qw3_162, qw1_7, qw3_163, ⟨by decide, by decide, by decide +kernel⟩, Nat.le_of_ble_eq_true rfl, rfl⟩
theorem lkX5_71 : LK RX5 71 RX5 TX5 24 6 0 "ResetlineModel" := ⟨iwX5, rfl, Nat.le_of_ble_eq_true rfl, qw3_165, Or.inl rfl⟩
theorem lkX5_7 : LK RX5 7 RX5 TX5 24 6 1 "ResetlineModel" := ⟨iwX5, rfl, Nat.le_of_ble_eq_true rfl, qw3_166, Or.inl rfl⟩
theorem lkX5_13 : LK RX5 13 RX5 TX5 24 6 2 "ResetlineModel" := ⟨iwX5, rfl, Nat.le_of_ble_eq_true rfl, qw3_167, Or.inl rfl⟩
theorem lkX5_17 : LK RX5 17 RX5 TX5 24 6 3 "ResetlineModel" := ⟨iwX5, rfl, Nat.le_of_ble_eq_true rfl, qw3_168, Or.inl rfl⟩
theorem lkX5_20 : LK RX5 20 RX5 TX5 24 6 4 "ResetlineModel" := ⟨iwX5, rfl, Nat.le_of_ble_eq_true rfl, qw3_169, Or.inl rfl⟩
theorem lkX5_99 : LK RX5 99 RX5 TX5 24 6 5 "ResetlineModel" := ⟨iwX5, rfl, Nat.le_of_ble_eq_true rfl, qw3_170, Or.inl rfl⟩
theorem lkX5_79 : LK RX5 79 RX5 TX5 24 6 6 "ResetlineModel" := ⟨iwX5, rfl, Nat.le_of_ble_eq_true rfl, qw3_171, Or.inl rfl⟩
theorem lkX5_23 : LK RX5 23 RX5 TX5 24 6 7 "ResetlineModel" := ⟨iwX5, rfl, Nat.le_of_ble_eq_true rfl, qw3_172, Or.inl rfl⟩
theorem lkX5_26 : LK RX5 26 RX5 TX5 24 6 8 "ResetlineModel" := ⟨iwX5, rfl, Nat.le_of_ble_eq_true rfl, qw3_173, Or.inl rfl⟩
theorem lkX5_29 : LK RX5 29 RX5 TX5 24 6 9 "ResetlineModel" := ⟨iwX5, rfl, Nat.le_of_ble_eq_true rfl, qw3_174, Or.inl rfl⟩
theorem lkX5_32 : LK RX5 32 RX5 TX5 24 6 10 "ResetlineModel" := ⟨iwX5, rfl, Nat.le_of_ble_eq_true rfl, qw3_175, Or.inl rfl⟩
theorem lkX5_35 : LK RX5 35 RX5 TX5 24 6 11 "ResetlineModel" := ⟨iwX5, rfl, Nat.le_of_ble_eq_true rfl, qw3_176, Or.inl rfl⟩
theorem lkX5_38 : LK RX5 38 RX5 TX5 24 6 12 "ResetlineModel" := ⟨iwX5, rfl, Nat.le_of_ble_eq_true rfl, qw3_177, Or.inl rfl⟩
theorem lkX5_41 : LK RX5 41 RX5 TX5 24 6 13 "ResetlineModel" := ⟨iwX5, rfl, Nat.le_of_ble_eq_true rfl, qw3_178, Or.inl rfl⟩
theorem lkX5_44 : LK RX5 44 RX5 TX5 24 6 14 "ResetlineModel" := ⟨iwX5, rfl, Nat.le_of_ble_eq_true rfl, qw3_179, Or.inl rfl⟩
theorem lkX5_47 : LK RX5 47 RX5 TX5 24 6 15 "ResetlineModel" := ⟨iwX5, rfl, Nat.le_of_ble_eq_true rfl, qw3_180, Or.inl rfl⟩
theorem lkX5_50 : LK RX5 50 RX5 TX5 24 6 16 "ResetlineModel" := ⟨iwX5, rfl, Nat.le_of_ble_eq_true rfl, qw3_181, Or.inl rfl⟩
theorem lkX5_108 : LK RX5 108 RX5 TX5 24 6 17 "ResetlineModel" := ⟨iwX5, rfl, Nat.le_of_ble_eq_true rfl, qw3_182, Or.inl rfl⟩
theorem lkX5_53 : LK RX5 53 RX5 TX5 24 6 18 "ResetlineModel" := ⟨iwX5, rfl, Nat.le_of_ble_eq_true rfl, qw3_183, Or.inl rfl⟩
theorem lkX5_56 : LK RX5 56 RX5 TX5 24 6 19 "ResetlineModel" := ⟨iwX5, rfl, Nat.le_of_ble_eq_true rfl, qw3_184, Or.inl rfl⟩
theorem lkX5_59 : LK RX5 59 RX5 TX5 24 6 20 "ResetlineModel" := ⟨iwX5, rfl, Nat.le_of_ble_eq_true rfl, qw3_185, Or.inl rfl⟩
theorem lkX5_62 : LK RX5 62 RX5 TX5 24 6 21 "ResetlineModel" := ⟨iwX5, rfl, Nat.le_of_ble_eq_true rfl, qw3_186, Or.inl rfl⟩
theorem lkX5_65 : LK RX5 65 RX5 TX5 24 6 22 "ResetlineModel" := ⟨iwX5, rfl, Nat.le_of_ble_eq_true rfl, qw3_187, Or.inl rfl⟩
theorem lkX5_68 : LK RX5 68 RX5 TX5 24 6 23 "ResetlineModel" := ⟨iwX5, rfl, Nat.le_of_ble_eq_true rfl, qw3_188, Or.inl rfl⟩
theorem kwL_93 : kwV RL 93 yX5_thrown cX5_thrown 1 (some FieldType.int) 0 := ⟨qw3_239, qw4_0, qw4_1, qw1_7, qw4_2, ⟨by decide, by decide, by decide +kernel⟩, Nat.le_of_ble_eq_true rfl⟩
theorem kwL_92 : kwV RL 92 yX5_holiday cX5_holiday 3 (some FieldType.int) 2 := ⟨qw4_3, qw4_4, qw4_5, qw1_7, qw4_6, ⟨by decide, by decide, by decide +kernel⟩, Nat.le_of_ble_eq_true rfl⟩
theorem kwX5_75 : kwS RX5 75 yX5_in cX5_in 3 (some FieldType.boolean) 3 := ⟨qw4_7, qw4_8, qw1_7, qw4_9, ⟨by decide, by decide, by decide +kernel⟩, Nat.le_of_ble_eq_true rfl⟩
theorem kwX5_89 : kwS RX5 89 yX5_isDay cX5_isDay 1 (some FieldType.boolean) 1 := ⟨qw4_10, qw4_11, qw1_7, qw4_12, ⟨by decide, by decide, by decide +kernel⟩, Nat.le_of_ble_eq_true rfl⟩
theorem kwL_100 : kwV RL 100 yX5_isOpen cX5_isOpen 2 (some FieldType.boolean) 1 := ⟨qw4_13, qw4_14, qw4_15, qw1_7, qw4_16, ⟨by decide, by decide, by decide +kernel⟩, Nat.le_of_ble_eq_true rfl⟩
theorem kwX5_86 : kwV RX5 86 yX5_opens cX5_opens 2 (some FieldType.boolean) 1 := ⟨qw4_17, qw4_19, qp11, qw1_7, qw4_20, ⟨by decide, by decide, by decide +kernel⟩, Nat.le_of_ble_eq_true rfl⟩
theorem kwL_103 : kwV RL 103 yX5_roll cX5_roll 2 (some FieldType.int) 1 := ⟨qw4_21, qw4_22, qw4_23, qw1_7, qw4_24, ⟨by decide, by decide, by decide +kernel⟩, Nat.le_of_ble_eq_true rfl⟩
theorem kwX5_92 : kwV RX5 92 yX5_rolled cX5_rolled 3 (some FieldType.int) 1 := ⟨qw4_25, qw4_27, qp12, qw1_7, qw4_28, ⟨by decide, by decide, by decide +kernel⟩, Nat.le_of_ble_eq_true rfl⟩
theorem kwX5_96 : kwV RX5 96 yX5_fails cX5_fails 2 (some FieldType.int) 1 := ⟨qw4_29, qw4_31, qp13, qw1_7, qw4_32, ⟨by decide, by decide, by decide +kernel⟩, Nat.le_of_ble_eq_true rfl⟩
theorem kwL_106 : kwV RL 106 yX5_fix cX5_fix 3 (some FieldType.int) 2 := ⟨qw4_33, qw4_34, qw4_35, qw1_7, qw4_36, ⟨by decide, by decide, by decide +kernel⟩, Nat.le_of_ble_eq_true rfl⟩
theorem kwL_109 : kwV RL 109 yX5_rateFor cX5_rateFor 2 (some FieldType.int) 1 := ⟨qw4_37, qw4_38, qw4_39, qw1_7, qw4_40, ⟨by decide, by decide, by decide +kernel⟩, Nat.le_of_ble_eq_true rfl⟩
theorem kwX5_102 : kwV RX5 102 yX5_rate cX5_rate 3 (some FieldType.int) 1 := ⟨qw4_41, qw4_43, qp14, qw1_7, qw4_44, ⟨by decide, by decide, by decide +kernel⟩, Nat.le_of_ble_eq_true rfl⟩
theorem kwL_113 : kwV RL 113 yX5_trade cX5_trade 9 (some FieldType.int) 7 := ⟨qw4_45, qw4_46, qw4_47, qw1_7, qw4_48, ⟨by decide, by decide, by decide +kernel⟩, Nat.le_of_ble_eq_true rfl⟩
theorem kwX5_105 : kwS RX5 105 yX5_isParty cX5_isParty 1 (some FieldType.boolean) 1 := ⟨qw4_49, qw4_50, qw1_7, qw4_51, ⟨by decide, by decide, by decide +kernel⟩, Nat.le_of_ble_eq_true rfl⟩
theorem kwL_117 : kwV RL 117 yX5_setTerms cX5_setTerms 6 (none : Option FieldType) 4 := ⟨qw4_52, qw4_53, qw4_54, qw1_7, qw4_55, ⟨by decide, by decide, by decide +kernel⟩, Nat.le_of_ble_eq_true rfl⟩
theorem kwX5_82 : kwV RX5 82 yX5_isTrade cX5_isTrade 2 (some FieldType.boolean) 1 := ⟨qw4_56, qw4_58, qp15, qw1_7, qw4_59, ⟨by decide, by decide, by decide +kernel⟩, Nat.le_of_ble_eq_true rfl⟩
theorem kwX5_115 : kwV RX5 115 yX5_countBreaks cX5_countBreaks 4 (some FieldType.int) 1 := ⟨qw4_60, qw4_62, qp16, qw1_7, qw4_63, ⟨by decide, by decide, by decide +kernel⟩, Nat.le_of_ble_eq_true rfl⟩
theorem kwL_121 : kwV RL 121 yX5_breakPart cX5_breakPart 4 (some FieldType.int) 3 := ⟨qw4_64, qw4_65, qw4_66, qw1_7, qw4_67, ⟨by decide, by decide, by decide +kernel⟩, Nat.le_of_ble_eq_true rfl⟩
theorem kwX5_118 : kwV RX5 118 yX5_rest cX5_rest 2 (some FieldType.int) 1 := ⟨qw4_68, qw4_70, qp17, qw1_7, qw4_71, ⟨by decide, by decide, by decide +kernel⟩, Nat.le_of_ble_eq_true rfl⟩
theorem kwX5_111 : kwV RX5 111 yX5_broken cX5_broken 5 (some FieldType.int) 2 := ⟨qw4_72, qw4_74, qp18, qw1_7, qw4_75, ⟨by decide, by decide, by decide +kernel⟩, Nat.le_of_ble_eq_true rfl⟩
theorem kwX5_121 : kwV RX5 121 yX5_breaks cX5_breaks 4 (none : Option FieldType) 3 := ⟨qw4_76, qw4_78, qp19, qw1_7, qw4_79, ⟨by decide, by decide, by decide +kernel⟩, Nat.le_of_ble_eq_true rfl⟩
theorem kwL_124 : kwV RL 124 yX5_handOver cX5_handOver 5 (some FieldType.int) 3 := ⟨qw4_80, qw4_81, qw4_82, qw1_7, qw4_83, ⟨by decide, by decide, by decide +kernel⟩, Nat.le_of_ble_eq_true rfl⟩
theorem kwX5_125 : kwV RX5 125 yX5_party cX5_party 7 (some FieldType.int) 2 := ⟨qw4_84, qw4_86, qp20, qw1_7, qw4_87, ⟨by decide, by decide, by decide +kernel⟩, Nat.le_of_ble_eq_true rfl⟩
theorem kwL_127 : kwV RL 127 yX5_press cX5_press 6 (some FieldType.int) 1 := ⟨qw4_88, qw4_89, qw4_90, qw1_7, qw4_91, ⟨by decide, by decide, by decide +kernel⟩, Nat.le_of_ble_eq_true rfl⟩
theorem kwX5_131 : kwV RX5 131 yX5_areLike cX5_areLike 4 (some FieldType.boolean) 2 := ⟨qw4_92, qw4_94, qp21, qw1_7, qw4_95, ⟨by decide, by decide, by decide +kernel⟩, Nat.le_of_ble_eq_true rfl⟩
theorem kwX5_135 : kwV RX5 135 yX5_haveOneParty cX5_haveOneParty 7 (some FieldType.boolean) 3 := ⟨qw4_96, qw4_98, qp22, qw1_7, qw4_99, ⟨by decide, by decide, by decide +kernel⟩, Nat.le_of_ble_eq_true rfl⟩
theorem kwX5_128 : kwV RX5 128 yX5_begins cX5_begins 3 (some FieldType.int) 2 := ⟨qw4_100, qw4_102, qp23, qw1_7, qw4_103, ⟨by decide, by decide, by decide +kernel⟩, Nat.le_of_ble_eq_true rfl⟩
theorem kwL_131 : kwV RL 131 yX5_trades cX5_trades 1 (some FieldType.int) 0 := ⟨qw4_104, qw4_105, qw4_106, qw1_7, qw4_107, ⟨by decide, by decide, by decide +kernel⟩, Nat.le_of_ble_eq_true rfl⟩
theorem kwL_134 : kwV RL 134 yX5_start cX5_start 3 (some FieldType.int) 2 := ⟨qw4_108, qw4_109, qw4_110, qw1_7, qw4_111, ⟨by decide, by decide, by decide +kernel⟩, Nat.le_of_ble_eq_true rfl⟩
theorem kwX5_154 : kwV RX5 154 yX5_isPeriod cX5_isPeriod 3 (some FieldType.boolean) 2 := ⟨qw4_112, qw4_114, qp24, qw1_7, qw4_115, ⟨by decide, by decide, by decide +kernel⟩, Nat.le_of_ble_eq_true rfl⟩
theorem kwL_137 : kwV RL 137 yX5_end cX5_end 3 (some FieldType.int) 2 := ⟨qw4_116, qw4_117, qw4_118, qw1_7, qw4_119, ⟨by decide, by decide, by decide +kernel⟩, Nat.le_of_ble_eq_true rfl⟩
theorem kwL_140 : kwV RL 140 yX5_lots cX5_lots 3 (some FieldType.int) 2 := ⟨qw4_120, qw4_121, qw4_122, qw1_7, qw4_123, ⟨by decide, by decide, by decide +kernel⟩, Nat.le_of_ble_eq_true rfl⟩
theorem kwX5_151 : kwV RX5 151 yX5_lotsOf cX5_lotsOf 3 (some FieldType.int) 2 := ⟨qw4_124, qw4_126, qp25, qw1_7, qw4_127, ⟨by decide, by decide, by decide +kernel⟩, Nat.le_of_ble_eq_true rfl⟩
theorem kwL_143 : kwV RL 143 yX5_floating cX5_floating 3 (some FieldType.long) 2 := ⟨qw4_128, qw4_129, qw4_130, qw1_7, qw4_131, ⟨by decide, by decide, by decide +kernel⟩, Nat.le_of_ble_eq_true rfl⟩
theorem kwX5_147 : kwV RX5 147 yX5_floats cX5_floats 16 (some FieldType.long) 2 := ⟨qw4_132, qw4_134, qp26, qw1_7, qw4_135, ⟨by decide, by decide, by decide +kernel⟩, Nat.le_of_ble_eq_true rfl⟩
theorem kwX5_138 : kwV RX5 138 yX5_days cX5_days 3 (some FieldType.int) 2 := ⟨qw4_136, qw4_138, qp27, qw1_7, qw4_139, ⟨by decide, by decide, by decide +kernel⟩, Nat.le_of_ble_eq_true rfl⟩
theorem kwX5_143 : kwS RX5 143 yX5_floor cX5_floor 6 (some FieldType.long) 2 := ⟨qw4_141, qw4_142, qw1_7, qw4_143, ⟨by decide, by decide, by decide +kernel⟩, Nat.le_of_ble_eq_true rfl⟩
theorem kwL_146 : kwV RL 146 yX5_flow cX5_flow 3 (some FieldType.long) 2 := ⟨qw4_144, qw4_145, qw4_146, qw1_7, qw4_147, ⟨by decide, by decide, by decide +kernel⟩, Nat.le_of_ble_eq_true rfl⟩
theorem kwX5_157 : kwV RX5 157 yX5_flowOf cX5_flowOf 5 (some FieldType.long) 2 := ⟨qw4_148, qw4_150, qp28, qw1_7, qw4_151, ⟨by decide, by decide, by decide +kernel⟩, Nat.le_of_ble_eq_true rfl⟩
theorem kwL_149 : kwV RL 149 yX5_partyOn cX5_partyOn 3 (some FieldType.int) 2 := ⟨qw4_152, qw4_153, qw4_154, qw1_7, qw4_155, ⟨by decide, by decide, by decide +kernel⟩, Nat.le_of_ble_eq_true rfl⟩
theorem kwL_152 : kwV RL 152 yX5_cash cX5_cash 3 (some FieldType.long) 2 := ⟨qw4_156, qw4_157, qw4_158, qw1_7, qw4_159, ⟨by decide, by decide, by decide +kernel⟩, Nat.le_of_ble_eq_true rfl⟩
theorem kwX5_160 : kwV RX5 160 yX5_sum cX5_sum 9 (some FieldType.long) 3 := ⟨qw4_160, qw4_162, qp29, qw1_7, qw4_163, ⟨by decide, by decide, by decide +kernel⟩, Nat.le_of_ble_eq_true rfl⟩
theorem kwL_155 : kwV RL 155 yX5_cashOfDays cX5_cashOfDays 4 (some FieldType.long) 3 := ⟨qw4_164, qw4_165, qw4_166, qw1_7, qw4_167, ⟨by decide, by decide, by decide +kernel⟩, Nat.le_of_ble_eq_true rfl⟩
theorem kwX5_164 : kwV RX5 164 yX5_barsDays cX5_barsDays 5 (some FieldType.int) 3 := ⟨qw4_168, qw4_170, qp30, qw1_7, qw4_171, ⟨by decide, by decide, by decide +kernel⟩, Nat.le_of_ble_eq_true rfl⟩
theorem kwL_158 : kwV RL 158 yX5_cashByTrades cX5_cashByTrades 4 (some FieldType.long) 3 := ⟨qw4_172, qw4_173, qw4_174, qw1_7, qw4_175, ⟨by decide, by decide, by decide +kernel⟩, Nat.le_of_ble_eq_true rfl⟩
theorem kwL_161 : kwV RL 161 yX5_nextFlow cX5_nextFlow 7 (some FieldType.int) 2 := ⟨qw4_176, qw4_177, qw4_178, qw1_7, qw4_179, ⟨by decide, by decide, by decide +kernel⟩, Nat.le_of_ble_eq_true rfl⟩
end
section
/-! what the diaries hold, as lists of (day, value) -/
abbrev Dy : Type := List (Int32 × Int32)
def ixL (d : Int32) : Nat → Dy → Option Nat
  | _, [] => none
  | i, x :: xs => if x.1 = d then some i else ixL d (i + 1) xs
def dHas (es : Dy) (d : Int32) : Bool := (ixL d 0 es).isSome
def lvL (day : Int32) : Int32 → Int32 → Dy → Int32
  | _, v, [] => v
  | lt, v, x :: xs => if x.1 ≤ day ∧ lt ≤ x.1 then lvL day x.1 x.2 xs else lvL day lt v xs
def dLast (es : Dy) (day o : Int32) : Int32 := lvL day (-1) o es
def smL (day : Int32) : Int32 → Dy → Int32
  | s, [] => s
  | s, x :: xs => if x.1 ≤ day then smL day (s + x.2) xs else smL day s xs
def dSum (es : Dy) (day : Int32) : Int32 := smL day 0 es
theorem drop_c {α : Type} {l r : List α} {x : α} {i : Nat} (h : l.drop i = x :: r) : l[i]? = some x ∧ i < l.length ∧ l.drop (i + 1) = r := by
  have h1 : i < l.length := by
    rcases Nat.lt_or_ge i l.length with q | q
    · exact q
    · rw [List.drop_eq_nil_of_le q] at h; cases h
  rw [List.drop_eq_getElem_cons h1] at h
  injection h with h2 h3
  exact ⟨by rw [List.getElem?_eq_getElem h1, h2], h1, h3⟩
theorem drop_n {α : Type} {l : List α} {i : Nat} (h : l.drop i = []) (hi : i ≤ l.length) : i = l.length := by
  have := List.drop_eq_nil_iff.mp h
  omega
/-- an ArrayList: c elements, the i-th at the cell ad i -/
def LR (E : ET) (a c : Nat) (ad : Nat → Nat) (H : Heap) : Prop := ∃ (mo : Int32) (arr n : Nat) (f : Nat → Option Nat), OB E 0 [.int mo, .ref arr, .int (nI c)] a H ∧ QA E n f arr H ∧ c ≤ n ∧ n < 2 ^ 31 ∧ ∀ i, i < c → f i = some (ad i)
/-- a Diary at d, its list at a, its entries at ad i -/
def DRx (E : ET) (d a : Nat) (ad : Nat → Nat) (es : Dy) (H : Heap) : Prop := OB E 2 [.ref a] d H ∧ LR E a es.length ad H ∧ ∀ (i : Nat) (x : Int32 × Int32), es[i]? = some x → OB E 3 [.int x.1, .int x.2] (ad i) H
def DR (E : ET) (d : Nat) (es : Dy) (H : Heap) : Prop := ∃ (a : Nat) (ad : Nat → Nat), DRx E d a ad es H
theorem LR.ob {E : ET} {a c : Nat} {ad : Nat → Nat} {H : Heap} (h : LR E a c ad H) : ∃ fs, OB E 0 fs a H ∧ c < 2 ^ 31 := by
  obtain ⟨mo, arr, n, f, h1, h2, h3, h4, h5⟩ := h
  exact ⟨_, h1, by omega⟩
end
section
theorem nx_xor (a b : Nat) : nI a ^^^ nI b = nI (a ^^^ b) := by
  apply Int32.toBitVec_inj.1
  show BitVec.ofNat 32 a ^^^ BitVec.ofNat 32 b = BitVec.ofNat 32 (a ^^^ b)
  apply BitVec.eq_of_getLsbD_eq
  intro i hi
  simp [hi]
theorem xor_pos {d : Nat} (h : d < 2 ^ 31) : 0 ≤ nI d ^^^ nI 7 := by
  rw [nx_xor]
  exact nI_pos' (Nat.xor_lt_two_pow h (by decide))
/-- the floor of a quotient by the cents of a lot, as the reference says it -/
def flo (x : Int64) : Int64 := if x / 3600000 * 3600000 > x then x / 3600000 - 1 else x / 3600000
theorem lot_toInt : (3600000 : Int64).toInt = 3600000 := by decide
theorem divmul (x : Int64) : (x / 3600000 * 3600000).toInt = x.toInt.tdiv 3600000 * 3600000 := by
  have e := Int.tmod_add_mul_tdiv x.toInt 3600000
  have h1 := Int.tmod_lt_of_pos x.toInt (b := 3600000) (by decide)
  have h2 := Int.lt_tmod_of_pos x.toInt (b := 3600000) (by decide)
  have b1 := x.toInt_lt
  have b2 := x.le_toInt
  have h3 : 0 ≤ x.toInt → 0 ≤ x.toInt.tmod 3600000 := fun h => Int.tmod_nonneg _ h
  have h4 : x.toInt ≤ 0 → x.toInt.tmod 3600000 ≤ 0 := fun h => by
    have := Int.tmod_nonneg (a := -x.toInt) 3600000 (by omega)
    rw [Int.neg_tmod] at this
    omega
  rw [Int64.toInt_mul, Int64.toInt_div_of_ne_right _ _ (by decide), lot_toInt]
  generalize x.toInt.tdiv 3600000 = q at *
  generalize x.toInt.tmod 3600000 = r at *
  generalize x.toInt = y at *
  refine Int.bmod_eq_of_le ?_ ?_
  · rcases Int.le_total 0 y with h | h
    · have := h3 h; omega
    · have := h4 h; omega
  · rcases Int.le_total 0 y with h | h
    · have := h3 h; omega
    · have := h4 h; omega
theorem divmul_pos {x : Int64} (h : 0 ≤ x) : ¬ x / 3600000 * 3600000 > x := by
  intro q
  have q : x < x / 3600000 * 3600000 := q
  rw [Int64.lt_iff_toInt_lt, divmul] at q
  rw [Int64.le_iff_toInt_le] at h
  have h : 0 ≤ x.toInt := h
  have e := Int.tmod_add_mul_tdiv x.toInt 3600000
  have := Int.tmod_nonneg 3600000 h
  omega
theorem divmul_neg {x : Int64} (h : x < 0) (hn : ¬ x / 3600000 * 3600000 = x) : x / 3600000 * 3600000 > x := by
  show x < x / 3600000 * 3600000
  rw [Int64.lt_iff_toInt_lt, divmul]
  rw [Int64.lt_iff_toInt_lt] at h
  have h : x.toInt < 0 := h
  have hn : ¬ x.toInt.tdiv 3600000 * 3600000 = x.toInt := fun q => hn (Int64.toInt_inj.mp (by rw [divmul]; exact q))
  have e := Int.tmod_add_mul_tdiv x.toInt 3600000
  have := Int.tmod_nonneg (a := -x.toInt) 3600000 (by omega)
  rw [Int.neg_tmod] at this
  omega
theorem xor_neg (x : Int64) : x ^^^ 3600000 < 0 ↔ x < 0 := by
  rw [Int64.lt_iff_toInt_lt, Int64.lt_iff_toInt_lt]
  have a : ∀ y : Int64, y.toInt < (0 : Int64).toInt ↔ y.toBitVec.msb = true := fun y => by
    rw [BitVec.msb_eq_toInt]
    simp
  rw [a, a]
  have e : (x ^^^ 3600000).toBitVec = x.toBitVec ^^^ (3600000 : Int64).toBitVec := rfl
  rw [e, BitVec.msb_xor]
  have e2 : (3600000 : Int64).toBitVec.msb = false := by decide
  rw [e2]
  simp
theorem lcmp_ge0 {x y : Int64} : 0 ≤ lg_cmp x y ↔ y ≤ x := lg_cmp_ge x y
theorem lcmp_eq0 {x y : Int64} : lg_cmp x y = 0 ↔ x = y := by
  unfold lg_cmp
  constructor
  · intro h
    by_cases c : x > y
    · rw [if_pos c] at h; exact absurd h (by decide)
    · rw [if_neg c] at h
      by_cases c2 : x = y
      · exact c2
      · rw [if_neg c2] at h; exact absurd h (by decide)
  · intro h
    subst h
    rw [if_neg (fun q => absurd q (Int64.lt_irrefl)), if_pos rfl]
theorem flo_a {x : Int64} (h : 0 ≤ lg_cmp (x ^^^ 3600000) 0) : x / 3600000 = flo x := by
  have h1 : ¬ x ^^^ 3600000 < 0 := Int64.not_lt.mpr (lcmp_ge0.mp h)
  rw [xor_neg] at h1
  rw [flo, if_neg (divmul_pos (Int64.not_lt.mp h1))]
theorem flo_b {x : Int64} (h : lg_cmp (x / 3600000 * 3600000) x = 0) : x / 3600000 = flo x := by
  have h1 := lcmp_eq0.mp h
  rw [flo, if_neg (fun q => by rw [h1] at q; exact absurd q Int64.lt_irrefl)]
theorem flo_c {x : Int64} (h : ¬ 0 ≤ lg_cmp (x ^^^ 3600000) 0) (h2 : ¬ lg_cmp (x / 3600000 * 3600000) x = 0) : x / 3600000 - 1 = flo x := by
  have h1 : x ^^^ 3600000 < 0 := Int64.not_le.mp (fun q => h (lcmp_ge0.mpr q))
  rw [xor_neg] at h1
  rw [flo, if_pos (divmul_neg h1 (fun q => h2 (lcmp_eq0.mpr q)))]
end
section
/-! methods of a class that has natives: by the method's own name -/
theorem MetofWF {l : Launch} {y : MethodName} {ws ws' : List Cond} {rm : Room} {Pc : Array Value → State → Prop} {Qc : Array Value → State → Outcome → State → Prop} {mc ms : Nat} {free : Addr → Prop} {cc : ByteArray} {maxL : Nat} {ret : Option FieldType}
    (hy : plainFor y = true) (hw : ws = Cond.code y cc maxL ret :: ws')
    (body : ∀ p e s m args below meth c s₁, BodyLoose p l y (headSpec ws rm) cc maxL ret e s m args below meth c s₁ → c.maxLocals = maxL → Pc args s →
      W p l e (headSpec ws rm).room s m args below meth c s.heap [] 0 0 (MQ below Qc args s mc ms free) (entryFrame m args maxL)) : Met l y ws rm Pc Qc mc ms free := by
  refine MetFree.of_bodySF (code := cc) (maxLocals := maxL) (ret := ret) hy ?_ ?_
  · intro args s m h hn
    obtain ⟨meth, c, h1, h2, h3, h4, h5, h6, -, -⟩ := Cond.code_spec hn (atoms_spec (ws := ws) h _ (by rw [hw]; exact List.mem_cons_self))
    exact ⟨meth, c, h1, h2, h3, h4, h5, h6⟩
  · intro p e s m args below meth c s₁ B hml hP _
    have hh0 : s₁.heap = s.heap := by rw [B.state]; rfl
    obtain ⟨t, a1, o, b1, b2, b3⟩ := body p e s m args below meth c s₁ B hml hP s₁ hh0 (Stand.of_body B)
    exact ⟨t, o, a1, b1, b2, ⟨b3.1, b3.2⟩⟩
theorem PCon.ofF {E : ET} {y : MethodName} {b : ByteArray} {mL : Nat} {ret : Option FieldType} {k : Nat} {av : List Value} {H : Heap} {v : Option Value} {C : String} (hC : y.cls = C) (hy : plainFor y = true) (hn : (lg_sl av).length ≤ mL)
    (body : ∀ (p : Program) (e : Env) (s : State) (m : MethodId) (below : List Frame) (meth : Method) (c : Code) (ls : Array Slot), p.tables.exec = Jvm.exec → c.code = b → meth.sig.returnType = ret → meth.locks = false → c.maxLocals = mL → s.vm.findClass C = some m.cls → (∀ w ∈ Tw, w.before av.toArray s = true) → EV E s H → s.heap = H → lv_has ls mL (lv_args 0 av) →
      W p (eL E) e (rmk k 0 0) s m av.toArray below meth c H [] 0 0 (MQ below (PQ v) av.toArray s 0 0 (fun _ => False)) (F0 m 0 ls [])) : PCon E y b mL ret k av H v := by
  refine MetofWF (cc := b) (maxL := mL) (ret := ret) hy rfl ?_
  intro p e s m args below meth c s₁ B hml hv
  obtain ⟨rfl, rfl, hE⟩ := hv
  subst hC
  have hl := lv_entry av hn
  rw [lg_entry_eq]
  exact body p e s m below meth c _ B.exec B.bytes B.returns B.notSynchronized hml (findClass_of_methodNamed B.named) (tw_hts B.pre) hE rfl hl
end
section
set_option maxRecDepth 100000 in
set_option maxHeartbeats 4000000 in
/-- Preconditions.checkIndex -/
theorem c_chk3 (E : ET) (i c : Nat) (H : Heap) (hi : i < c) (hc : c < 2 ^ 31) : PCon E yJ3_checkIndex_8e157 cJ3_checkIndex_8e157 3 (some FieldType.int) 1 [.int (nI i), .int (nI c), .null] H (some (.int (nI i))) := by
  refine PCon.of (C := RJ3) rfl (by decide +kernel) (Nat.le_of_ble_eq_true rfl) ?_
  intro p e s m below meth co ls hx hb hr hlk hml hown hts hE hH hl
  have hl : lv_has ls 3 [(0, .int (nI i)), (1, .int (nI c)), (2, .null)] := hl
  refine lv_iload_n hx hb dJ3_checkIndex_8e157_0 rfl (lv_at hl 0 rfl) ?_
  refine lv_if_lt (tgt := 9) hx hb dJ3_checkIndex_8e157_1 (by decide) (fun c => ?_) (fun c => ?_)
  · exact absurd c (nI_pos (by omega))
  refine lv_iload_n hx hb dJ3_checkIndex_8e157_4 rfl (lv_at hl 0 rfl) ?_
  refine lv_iload_n hx hb dJ3_checkIndex_8e157_5 rfl (lv_at hl 1 rfl) ?_
  refine lv_icmp_lt (tgt := 16) hx hb dJ3_checkIndex_8e157_6 (by decide) (fun c => ?_) (fun c => ?_)
  rotate_left
  · exact absurd (nI_lt hi (by omega)) c
  refine lv_iload_n hx hb dJ3_checkIndex_8e157_16 rfl (lv_at hl 0 rfl) ?_
  exact pI hx hb hr hlk hH rfl dJ3_checkIndex_8e157_17

set_option maxRecDepth 100000 in
set_option maxHeartbeats 4000000 in
/-- Objects.checkIndex -/
theorem c_chk15 (E : ET) (i c : Nat) (H : Heap) (hi : i < c) (hc : c < 2 ^ 31) : PCon E yJ15_checkIndex_7cf53 cJ15_checkIndex_7cf53 2 (some FieldType.int) 2 [.int (nI i), .int (nI c)] H (some (.int (nI i))) := by
  refine PCon.of (C := RJ15) rfl (by decide +kernel) (Nat.le_of_ble_eq_true rfl) ?_
  intro p e s m below meth co ls hx hb hr hlk hml hown hts hE hH hl
  have hl : lv_has ls 2 [(0, .int (nI i)), (1, .int (nI c))] := hl
  refine lv_iload_n hx hb dJ15_checkIndex_7cf53_0 rfl (lv_at hl 0 rfl) ?_
  refine lv_iload_n hx hb dJ15_checkIndex_7cf53_1 rfl (lv_at hl 1 rfl) ?_
  refine lv_null hx hb dJ15_checkIndex_7cf53_2 ?_
  refine pS hx hb hml hts hown hE kwJ15_105 (c_chk3 E i c H hi hc) (Nat.le_of_ble_eq_true rfl) rfl hl.1 rfl (Nat.le_of_ble_eq_true rfl) (Nat.le_refl _) (Nat.le_refl _) dJ15_checkIndex_7cf53_3 ?_
  exact pI hx hb hr hlk hH rfl dJ15_checkIndex_7cf53_6

set_option maxRecDepth 100000 in
set_option maxHeartbeats 4000000 in
/-- ArrayList.size -/
theorem c_size (E : ET) (a c : Nat) (ad : Nat → Nat) (H : Heap) (h : LR E a c ad H) : PCon E yJx4a65c_size_8abf5 cJx4a65c_size_8abf5 1 (some FieldType.int) 1 [.ref a] H (some (.int (nI c))) := by
  refine PCon.of (C := RJx4a65c) rfl (by decide +kernel) (Nat.le_of_ble_eq_true rfl) ?_
  intro p e s m below meth co ls hx hb hr hlk hml hown hts hE hH hl
  have hl : lv_has ls 1 [(0, .ref a)] := hl
  obtain ⟨mo, arr, n, f, hO, hA, hc, hn, hf⟩ := h
  refine lv_aload_n hx hb dJx4a65c_size_8abf5_0 rfl (lv_at hl 0 rfl) ?_
  refine gf hx hb hts hown hE lkJx4a65c_48 hO rfl dJx4a65c_size_8abf5_1 ?_
  exact pI hx hb hr hlk hH rfl dJx4a65c_size_8abf5_4

set_option maxRecDepth 100000 in
set_option maxHeartbeats 4000000 in
/-- ArrayList.elementData -/
theorem c_elt (E : ET) (a c i : Nat) (ad : Nat → Nat) (H : Heap) (h : LR E a c ad H) (hi : i < c) : PCon E yJx4a65c_elementData_915e3 cJx4a65c_elementData_915e3 2 (some (FieldType.object "java/lang/Object")) 1 [.ref a, .int (nI i)] H (some (.ref (ad i))) := by
  refine PCon.of (C := RJx4a65c) rfl (by decide +kernel) (Nat.le_of_ble_eq_true rfl) ?_
  intro p e s m below meth co ls hx hb hr hlk hml hown hts hE hH hl
  have hl : lv_has ls 2 [(0, .ref a), (1, .int (nI i))] := hl
  obtain ⟨mo, arr, n, f, hO, hA, hc, hn, hf⟩ := h
  refine lv_aload_n hx hb dJx4a65c_elementData_915e3_0 rfl (lv_at hl 0 rfl) ?_
  refine gf hx hb hts hown hE lkJx4a65c_9 hO rfl dJx4a65c_elementData_915e3_1 ?_
  refine lv_iload_n hx hb dJx4a65c_elementData_915e3_4 rfl (lv_at hl 1 rfl) ?_
  refine aQ hx hb hE hA rfl (by omega) hn (hf i hi) dJx4a65c_elementData_915e3_5 ?_
  exact pA hx hb hr (Or.inl ⟨_, rfl⟩) (Or.inr ⟨_, rfl⟩) hlk hH rfl dJx4a65c_elementData_915e3_6

set_option maxRecDepth 100000 in
set_option maxHeartbeats 4000000 in
/-- ArrayList.get -/
theorem c_get (E : ET) (a c i : Nat) (ad : Nat → Nat) (H : Heap) (h : LR E a c ad H) (hi : i < c) : PCon E yJx4a65c_get_915e3 cJx4a65c_get_915e3 2 (some (FieldType.object "java/lang/Object")) 3 [.ref a, .int (nI i)] H (some (.ref (ad i))) := by
  refine PCon.of (C := RJx4a65c) rfl (by decide +kernel) (Nat.le_of_ble_eq_true rfl) ?_
  intro p e s m below meth co ls hx hb hr hlk hml hown hts hE hH hl
  have hl : lv_has ls 2 [(0, .ref a), (1, .int (nI i))] := hl
  have hh := h
  obtain ⟨mo, arr, n, f, hO, hA, hc, hn, hf⟩ := h
  refine lv_iload_n hx hb dJx4a65c_get_915e3_0 rfl (lv_at hl 1 rfl) ?_
  refine lv_aload_n hx hb dJx4a65c_get_915e3_1 rfl (lv_at hl 0 rfl) ?_
  refine gf hx hb hts hown hE lkJx4a65c_48 hO rfl dJx4a65c_get_915e3_2 ?_
  refine pS hx hb hml hts hown hE kwJx4a65c_118 (c_chk15 E i c H hi (by omega)) (Nat.le_of_ble_eq_true rfl) rfl hl.1 rfl (Nat.le_of_ble_eq_true rfl) (Nat.le_refl _) (Nat.le_refl _) dJx4a65c_get_915e3_5 ?_
  refine lv_pop hx hb dJx4a65c_get_915e3_8 rfl ?_
  refine lv_aload_n hx hb dJx4a65c_get_915e3_9 rfl (lv_at hl 0 rfl) ?_
  refine lv_iload_n hx hb dJx4a65c_get_915e3_10 rfl (lv_at hl 1 rfl) ?_
  refine pV hx hb hml hts hown hE kwJx4a65c_123 (c_elt E a c i ad H hh hi) hO rfl (Nat.le_of_ble_eq_true rfl) rfl hl.1 rfl (Nat.le_of_ble_eq_true rfl) (Nat.le_refl _) (Nat.le_refl _) dJx4a65c_get_915e3_11 ?_
  exact pA hx hb hr (Or.inl ⟨_, rfl⟩) (Or.inr ⟨_, rfl⟩) hlk hH rfl dJx4a65c_get_915e3_14
end
section
set_option maxRecDepth 100000 in
set_option maxHeartbeats 4000000 in
/-- Diary.entryOf -/
theorem c_entryOf (E : ET) (d a : Nat) (ad : Nat → Nat) (es : Dy) (day : Int32) (H : Heap) (h : DRx E d a ad es H) : PCon E yX1_entryOf cX1_entryOf 4 (some (FieldType.object "Resetline$Entry")) 4 [.ref d, .int day] H (some (va_rf ((ixL day 0 es).map ad))) := by
  refine PCon.of (C := RX1) rfl (by decide +kernel) (Nat.le_of_ble_eq_true rfl) ?_
  intro p e s m below meth co ls hx hb hr hlk hml hown hts hE hH hl
  have hl : lv_has ls 4 [(0, .ref d), (1, .int day)] := hl
  obtain ⟨hO, hL, hEs⟩ := h
  obtain ⟨fs0, hOa, hcl⟩ := hL.ob
  refine lv_iconst (v := 0) hx hb dX1_entryOf_0 (by decide) ?_
  refine lv_istore_n (lv' := [(2, .int 0), (0, .ref d), (1, .int day)]) hx hb dX1_entryOf_1 rfl hl (by decide) rfl (fun ls hl => ?_)
  have loop : ∀ (xs : Dy) (i : Nat) (ls : Array Slot), es.drop i = xs → i ≤ es.length → ixL day 0 es = ixL day i xs → lv_has ls 4 [(2, .int (nI i)), (0, .ref d), (1, .int day)] → W p (eL E) e (rmk 4 0 0) s m ([.ref d, .int day]).toArray below meth co H [] 0 0 (MQ below (PQ (some (va_rf ((ixL day 0 es).map ad)))) ([.ref d, .int day]).toArray s 0 0 (fun _ => False)) (F0 m 2 ls []) := by
    intro xs
    induction xs with
    | nil =>
      intro i ls hd hi he hl
      have hi2 := drop_n hd hi
      refine lv_iload_n hx hb dX1_entryOf_2 rfl (lv_at hl 0 rfl) ?_
      refine lv_aload_n hx hb dX1_entryOf_3 rfl (lv_at hl 1 rfl) ?_
      refine gf hx hb hts hown hE lkX1_12 hO rfl dX1_entryOf_4 ?_
      refine pV hx hb hml hts hown hE kwX1_18 (c_size E a es.length ad H hL) hOa rfl (Nat.le_of_ble_eq_true rfl) rfl hl.1 rfl (Nat.le_of_ble_eq_true rfl) (Nat.le_refl _) (Nat.le_refl _) dX1_entryOf_7 ?_
      refine lv_icmp_ge (tgt := 41) hx hb dX1_entryOf_10 (by decide) (fun c => ?_) (fun c => ?_)
      rotate_left
      · exact absurd (nI_le (by omega) (by omega)) c
      refine lv_null hx hb dX1_entryOf_41 ?_
      exact pA hx hb hr (Or.inl ⟨_, rfl⟩) (Or.inl rfl) hlk hH (by rw [he]; rfl) dX1_entryOf_42
    | cons x xs ih =>
      intro i ls hd hi he hl
      obtain ⟨hx0, hlt, hd2⟩ := drop_c hd
      refine lv_iload_n hx hb dX1_entryOf_2 rfl (lv_at hl 0 rfl) ?_
      refine lv_aload_n hx hb dX1_entryOf_3 rfl (lv_at hl 1 rfl) ?_
      refine gf hx hb hts hown hE lkX1_12 hO rfl dX1_entryOf_4 ?_
      refine pV hx hb hml hts hown hE kwX1_18 (c_size E a es.length ad H hL) hOa rfl (Nat.le_of_ble_eq_true rfl) rfl hl.1 rfl (Nat.le_of_ble_eq_true rfl) (Nat.le_refl _) (Nat.le_refl _) dX1_entryOf_7 ?_
      refine lv_icmp_ge (tgt := 41) hx hb dX1_entryOf_10 (by decide) (fun c => ?_) (fun c => ?_)
      · exact absurd c (nI_ge hlt (by omega))
      refine lv_aload_n hx hb dX1_entryOf_13 rfl (lv_at hl 1 rfl) ?_
      refine gf hx hb hts hown hE lkX1_12 hO rfl dX1_entryOf_14 ?_
      refine lv_iload_n hx hb dX1_entryOf_17 rfl (lv_at hl 0 rfl) ?_
      refine pV hx hb hml hts hown hE kwX1_41 (c_get E a es.length i ad H hL hlt) hOa rfl (Nat.le_of_ble_eq_true rfl) rfl hl.1 rfl (Nat.le_of_ble_eq_true rfl) (Nat.le_refl _) (Nat.le_refl _) dX1_entryOf_18 ?_
      refine cst hx hb hts hown hE qw1_229 (hEs i x hx0) rfl dX1_entryOf_21 ?_
      refine lv_astore_n (lv' := [(3, .ref (ad i)), (2, .int (nI i)), (0, .ref d), (1, .int day)]) hx hb dX1_entryOf_24 rfl hl (by decide) rfl (fun ls hl => ?_)
      refine lv_aload_n hx hb dX1_entryOf_25 rfl (lv_at hl 0 rfl) ?_
      refine gf hx hb hts hown hE lkX1_45 (hEs i x hx0) rfl dX1_entryOf_26 ?_
      refine lv_iload_n hx hb dX1_entryOf_29 rfl (lv_at hl 3 rfl) ?_
      refine lv_icmp_ne (tgt := 35) hx hb dX1_entryOf_30 (by decide) (fun c => ?_) (fun c => ?_)
      · refine lv_iinc (v := nI (i + 1)) (lv' := [(2, .int (nI (i + 1))), (3, .ref (ad i)), (0, .ref d), (1, .int day)]) hx hb dX1_entryOf_35 hl (k := 1) rfl (nI_1 i) (by decide) rfl (fun ls hl => ?_)
        refine lv_goto (tgt := 2) hx hb dX1_entryOf_38 (by decide) ?_
        exact ih (i + 1) ls hd2 (by omega) (he.trans (by simp only [ixL, if_neg c])) (lv_sub hl [0, 2, 3] rfl)
      · refine lv_aload_n hx hb dX1_entryOf_33 rfl (lv_at hl 0 rfl) ?_
        exact pA hx hb hr (Or.inl ⟨_, rfl⟩) (Or.inr ⟨_, rfl⟩) hlk hH (by rw [he]; simp only [ixL, if_pos c]; rfl) dX1_entryOf_34
  exact loop es 0 ls rfl (Nat.zero_le _) rfl (lv_sub hl [0, 1, 2] rfl)

set_option maxRecDepth 100000 in
set_option maxHeartbeats 4000000 in
/-- Diary.has -/
theorem c_has (E : ET) (d a : Nat) (ad : Nat → Nat) (es : Dy) (day : Int32) (H : Heap) (h : DRx E d a ad es H) : PCon E yX1_has cX1_has 2 (some FieldType.boolean) 5 [.ref d, .int day] H (some (.int (if dHas es day then 1 else 0))) := by
  refine PCon.of (C := RX1) rfl (by decide +kernel) (Nat.le_of_ble_eq_true rfl) ?_
  intro p e s m below meth co ls hx hb hr hlk hml hown hts hE hH hl
  have hl : lv_has ls 2 [(0, .ref d), (1, .int day)] := hl
  have hM := c_entryOf E d a ad es day H h
  obtain ⟨hO, hL, hEs⟩ := h
  obtain ⟨fs0, hOa, hcl⟩ := hL.ob
  cases hix : ixL day 0 es with
  | none =>
    rw [hix] at hM
    refine lv_aload_n hx hb dX1_has_0 rfl (lv_at hl 0 rfl) ?_
    refine lv_iload_n hx hb dX1_has_1 rfl (lv_at hl 1 rfl) ?_
    refine pV hx hb hml hts hown hE kwX1_22 hM hO rfl (Nat.le_of_ble_eq_true rfl) rfl hl.1 rfl (Nat.le_of_ble_eq_true rfl) (Nat.le_refl _) (Nat.le_refl _) dX1_has_2 ?_
    refine lv_ifnullN (tgt := 12) hx hb dX1_has_5 (by decide) ?_
    refine lv_iconst (v := 0) hx hb dX1_has_12 (by decide) ?_
    exact pZ hx hb hr hlk hH (by simp [dHas, hix]) dX1_has_13
  | some j =>
    rw [hix] at hM
    refine lv_aload_n hx hb dX1_has_0 rfl (lv_at hl 0 rfl) ?_
    refine lv_iload_n hx hb dX1_has_1 rfl (lv_at hl 1 rfl) ?_
    refine pV hx hb hml hts hown hE kwX1_22 hM hO rfl (Nat.le_of_ble_eq_true rfl) rfl hl.1 rfl (Nat.le_of_ble_eq_true rfl) (Nat.le_refl _) (Nat.le_refl _) dX1_has_2 ?_
    refine lv_ifnull hx hb dX1_has_5 ?_
    refine lv_iconst (v := 1) hx hb dX1_has_8 (by decide) ?_
    refine lv_goto (tgt := 13) hx hb dX1_has_9 (by decide) ?_
    exact pZ hx hb hr hlk hH (by simp [dHas, hix]) dX1_has_13

set_option maxRecDepth 100000 in
set_option maxHeartbeats 4000000 in
/-- Diary.count -/
theorem c_count (E : ET) (d a : Nat) (ad : Nat → Nat) (es : Dy) (H : Heap) (h : DRx E d a ad es H) : PCon E yX1_count cX1_count 1 (some FieldType.int) 2 [.ref d] H (some (.int (nI es.length))) := by
  refine PCon.of (C := RX1) rfl (by decide +kernel) (Nat.le_of_ble_eq_true rfl) ?_
  intro p e s m below meth co ls hx hb hr hlk hml hown hts hE hH hl
  have hl : lv_has ls 1 [(0, .ref d)] := hl
  obtain ⟨hO, hL, hEs⟩ := h
  obtain ⟨fs0, hOa, hcl⟩ := hL.ob
  refine lv_aload_n hx hb dX1_count_0 rfl (lv_at hl 0 rfl) ?_
  refine gf hx hb hts hown hE lkX1_12 hO rfl dX1_count_1 ?_
  refine pV hx hb hml hts hown hE kwX1_18 (c_size E a es.length ad H hL) hOa rfl (Nat.le_of_ble_eq_true rfl) rfl hl.1 rfl (Nat.le_of_ble_eq_true rfl) (Nat.le_refl _) (Nat.le_refl _) dX1_count_4 ?_
  exact pI hx hb hr hlk hH rfl dX1_count_7

set_option maxRecDepth 100000 in
set_option maxHeartbeats 4000000 in
/-- Diary.latestValue -/
theorem c_last (E : ET) (d a : Nat) (ad : Nat → Nat) (es : Dy) (day o : Int32) (H : Heap) (h : DRx E d a ad es H) : PCon E yX1_latestValue cX1_latestValue 7 (some FieldType.int) 4 [.ref d, .int day, .int o] H (some (.int (dLast es day o))) := by
  refine PCon.of (C := RX1) rfl (by decide +kernel) (Nat.le_of_ble_eq_true rfl) ?_
  intro p e s m below meth co ls hx hb hr hlk hml hown hts hE hH hl
  have hl : lv_has ls 7 [(0, .ref d), (1, .int day), (2, .int o)] := hl
  obtain ⟨hO, hL, hEs⟩ := h
  obtain ⟨fs0, hOa, hcl⟩ := hL.ob
  refine lv_iconst (v := (-1)) hx hb dX1_latestValue_0 (by decide) ?_
  refine lv_istore_n (lv' := [(3, .int (-1)), (0, .ref d), (1, .int day), (2, .int o)]) hx hb dX1_latestValue_1 rfl hl (by decide) rfl (fun ls hl => ?_)
  refine lv_iload_n hx hb dX1_latestValue_2 rfl (lv_at hl 3 rfl) ?_
  refine lv_istore (lv' := [(4, .int o), (3, .int (-1)), (0, .ref d), (1, .int day), (2, .int o)]) hx hb dX1_latestValue_3 hl (by decide) rfl (fun ls hl => ?_)
  refine lv_iconst (v := 0) hx hb dX1_latestValue_5 (by decide) ?_
  refine lv_istore (lv' := [(5, .int 0), (4, .int o), (3, .int (-1)), (0, .ref d), (1, .int day), (2, .int o)]) hx hb dX1_latestValue_6 hl (by decide) rfl (fun ls hl => ?_)
  have loop : ∀ (xs : Dy) (i : Nat) (lt v : Int32) (ls : Array Slot), es.drop i = xs → i ≤ es.length → dLast es day o = lvL day lt v xs → lv_has ls 7 [(5, .int (nI i)), (4, .int v), (3, .int lt), (0, .ref d), (1, .int day)] → W p (eL E) e (rmk 4 0 0) s m ([.ref d, .int day, .int o]).toArray below meth co H [] 0 0 (MQ below (PQ (some (.int (dLast es day o)))) ([.ref d, .int day, .int o]).toArray s 0 0 (fun _ => False)) (F0 m 8 ls []) := by
    intro xs
    induction xs with
    | nil =>
      intro i lt v ls hd hi he hl
      have hi2 := drop_n hd hi
      refine lv_iload hx hb dX1_latestValue_8 (lv_at hl 0 rfl) ?_
      refine lv_aload_n hx hb dX1_latestValue_10 rfl (lv_at hl 3 rfl) ?_
      refine gf hx hb hts hown hE lkX1_12 hO rfl dX1_latestValue_11 ?_
      refine pV hx hb hml hts hown hE kwX1_18 (c_size E a es.length ad H hL) hOa rfl (Nat.le_of_ble_eq_true rfl) rfl hl.1 rfl (Nat.le_of_ble_eq_true rfl) (Nat.le_refl _) (Nat.le_refl _) dX1_latestValue_14 ?_
      refine lv_icmp_ge (tgt := 71) hx hb dX1_latestValue_17 (by decide) (fun c => ?_) (fun c => ?_)
      rotate_left
      · exact absurd (nI_le (by omega) (by omega)) c
      refine lv_iload hx hb dX1_latestValue_71 (lv_at hl 1 rfl) ?_
      exact pI hx hb hr hlk hH (by rw [he]; rfl) dX1_latestValue_73
    | cons x xs ih =>
      intro i lt v ls hd hi he hl
      obtain ⟨hx0, hlt, hd2⟩ := drop_c hd
      refine lv_iload hx hb dX1_latestValue_8 (lv_at hl 0 rfl) ?_
      refine lv_aload_n hx hb dX1_latestValue_10 rfl (lv_at hl 3 rfl) ?_
      refine gf hx hb hts hown hE lkX1_12 hO rfl dX1_latestValue_11 ?_
      refine pV hx hb hml hts hown hE kwX1_18 (c_size E a es.length ad H hL) hOa rfl (Nat.le_of_ble_eq_true rfl) rfl hl.1 rfl (Nat.le_of_ble_eq_true rfl) (Nat.le_refl _) (Nat.le_refl _) dX1_latestValue_14 ?_
      refine lv_icmp_ge (tgt := 71) hx hb dX1_latestValue_17 (by decide) (fun c => ?_) (fun c => ?_)
      · exact absurd c (nI_ge hlt (by omega))
      refine lv_aload_n hx hb dX1_latestValue_20 rfl (lv_at hl 3 rfl) ?_
      refine gf hx hb hts hown hE lkX1_12 hO rfl dX1_latestValue_21 ?_
      refine lv_iload hx hb dX1_latestValue_24 (lv_at hl 0 rfl) ?_
      refine pV hx hb hml hts hown hE kwX1_41 (c_get E a es.length i ad H hL hlt) hOa rfl (Nat.le_of_ble_eq_true rfl) rfl hl.1 rfl (Nat.le_of_ble_eq_true rfl) (Nat.le_refl _) (Nat.le_refl _) dX1_latestValue_26 ?_
      refine cst hx hb hts hown hE qw1_229 (hEs i x hx0) rfl dX1_latestValue_29 ?_
      refine lv_astore (lv' := [(6, .ref (ad i)), (5, .int (nI i)), (4, .int v), (3, .int lt), (0, .ref d), (1, .int day)]) hx hb dX1_latestValue_32 hl (by decide) rfl (fun ls hl => ?_)
      refine lv_aload hx hb dX1_latestValue_34 (lv_at hl 0 rfl) ?_
      refine gf hx hb hts hown hE lkX1_45 (hEs i x hx0) rfl dX1_latestValue_36 ?_
      refine lv_iload_n hx hb dX1_latestValue_39 rfl (lv_at hl 5 rfl) ?_
      refine lv_icmp_gt (tgt := 65) hx hb dX1_latestValue_40 (by decide) (fun c => ?_) (fun c => ?_)
      · refine lv_iinc (v := nI (i + 1)) (lv' := [(5, .int (nI (i + 1))), (6, .ref (ad i)), (4, .int v), (3, .int lt), (0, .ref d), (1, .int day)]) hx hb dX1_latestValue_65 hl (k := 1) rfl (nI_1 i) (by decide) rfl (fun ls hl => ?_)
        refine lv_goto (tgt := 8) hx hb dX1_latestValue_68 (by decide) ?_
        exact ih (i + 1) lt v ls hd2 (by omega) (he.trans (by simp only [lvL]; rw [if_neg (fun q => absurd q.1 (Int32.not_le.mpr c))])) (lv_sub hl [0, 2, 3, 4, 5] rfl)
      · refine lv_aload hx hb dX1_latestValue_43 (lv_at hl 0 rfl) ?_
        refine gf hx hb hts hown hE lkX1_45 (hEs i x hx0) rfl dX1_latestValue_45 ?_
        refine lv_iload_n hx hb dX1_latestValue_48 rfl (lv_at hl 3 rfl) ?_
        refine lv_icmp_lt (tgt := 65) hx hb dX1_latestValue_49 (by decide) (fun c2 => ?_) (fun c2 => ?_)
        · refine lv_iinc (v := nI (i + 1)) (lv' := [(5, .int (nI (i + 1))), (6, .ref (ad i)), (4, .int v), (3, .int lt), (0, .ref d), (1, .int day)]) hx hb dX1_latestValue_65 hl (k := 1) rfl (nI_1 i) (by decide) rfl (fun ls hl => ?_)
          refine lv_goto (tgt := 8) hx hb dX1_latestValue_68 (by decide) ?_
          exact ih (i + 1) lt v ls hd2 (by omega) (he.trans (by simp only [lvL]; rw [if_neg (fun q => absurd q.2 (Int32.not_le.mpr c2))])) (lv_sub hl [0, 2, 3, 4, 5] rfl)
        · refine lv_aload hx hb dX1_latestValue_52 (lv_at hl 0 rfl) ?_
          refine gf hx hb hts hown hE lkX1_45 (hEs i x hx0) rfl dX1_latestValue_54 ?_
          refine lv_istore_n (lv' := [(3, .int x.1), (6, .ref (ad i)), (5, .int (nI i)), (4, .int v), (0, .ref d), (1, .int day)]) hx hb dX1_latestValue_57 rfl hl (by decide) rfl (fun ls hl => ?_)
          refine lv_aload hx hb dX1_latestValue_58 (lv_at hl 1 rfl) ?_
          refine gf hx hb hts hown hE lkX1_37 (hEs i x hx0) rfl dX1_latestValue_60 ?_
          refine lv_istore (lv' := [(4, .int x.2), (3, .int x.1), (6, .ref (ad i)), (5, .int (nI i)), (0, .ref d), (1, .int day)]) hx hb dX1_latestValue_63 hl (by decide) rfl (fun ls hl => ?_)
          refine lv_iinc (v := nI (i + 1)) (lv' := [(5, .int (nI (i + 1))), (4, .int x.2), (3, .int x.1), (6, .ref (ad i)), (0, .ref d), (1, .int day)]) hx hb dX1_latestValue_65 hl (k := 3) rfl (nI_1 i) (by decide) rfl (fun ls hl => ?_)
          refine lv_goto (tgt := 8) hx hb dX1_latestValue_68 (by decide) ?_
          exact ih (i + 1) x.1 x.2 ls hd2 (by omega) (he.trans (by simp only [lvL]; rw [if_pos ⟨Int32.not_lt.mp c, Int32.not_lt.mp c2⟩])) (lv_sub hl [0, 1, 2, 4, 5] rfl)
  exact loop es 0 (-1) o ls rfl (Nat.zero_le _) rfl (lv_sub hl [0, 1, 2, 3, 4] rfl)

set_option maxRecDepth 100000 in
set_option maxHeartbeats 4000000 in
/-- Diary.sumUntil -/
theorem c_sum (E : ET) (d a : Nat) (ad : Nat → Nat) (es : Dy) (day : Int32) (H : Heap) (h : DRx E d a ad es H) : PCon E yX1_sumUntil cX1_sumUntil 5 (some FieldType.int) 4 [.ref d, .int day] H (some (.int (dSum es day))) := by
  refine PCon.of (C := RX1) rfl (by decide +kernel) (Nat.le_of_ble_eq_true rfl) ?_
  intro p e s m below meth co ls hx hb hr hlk hml hown hts hE hH hl
  have hl : lv_has ls 5 [(0, .ref d), (1, .int day)] := hl
  obtain ⟨hO, hL, hEs⟩ := h
  obtain ⟨fs0, hOa, hcl⟩ := hL.ob
  refine lv_iconst (v := 0) hx hb dX1_sumUntil_0 (by decide) ?_
  refine lv_istore_n (lv' := [(2, .int 0), (0, .ref d), (1, .int day)]) hx hb dX1_sumUntil_1 rfl hl (by decide) rfl (fun ls hl => ?_)
  refine lv_iconst (v := 0) hx hb dX1_sumUntil_2 (by decide) ?_
  refine lv_istore_n (lv' := [(3, .int 0), (2, .int 0), (0, .ref d), (1, .int day)]) hx hb dX1_sumUntil_3 rfl hl (by decide) rfl (fun ls hl => ?_)
  have loop : ∀ (xs : Dy) (i : Nat) (v : Int32) (ls : Array Slot), es.drop i = xs → i ≤ es.length → dSum es day = smL day v xs → lv_has ls 5 [(3, .int (nI i)), (2, .int v), (0, .ref d), (1, .int day)] → W p (eL E) e (rmk 4 0 0) s m ([.ref d, .int day]).toArray below meth co H [] 0 0 (MQ below (PQ (some (.int (dSum es day)))) ([.ref d, .int day]).toArray s 0 0 (fun _ => False)) (F0 m 4 ls []) := by
    intro xs
    induction xs with
    | nil =>
      intro i v ls hd hi he hl
      have hi2 := drop_n hd hi
      refine lv_iload_n hx hb dX1_sumUntil_4 rfl (lv_at hl 0 rfl) ?_
      refine lv_aload_n hx hb dX1_sumUntil_5 rfl (lv_at hl 2 rfl) ?_
      refine gf hx hb hts hown hE lkX1_12 hO rfl dX1_sumUntil_6 ?_
      refine pV hx hb hml hts hown hE kwX1_18 (c_size E a es.length ad H hL) hOa rfl (Nat.le_of_ble_eq_true rfl) rfl hl.1 rfl (Nat.le_of_ble_eq_true rfl) (Nat.le_refl _) (Nat.le_refl _) dX1_sumUntil_9 ?_
      refine lv_icmp_ge (tgt := 51) hx hb dX1_sumUntil_12 (by decide) (fun c => ?_) (fun c => ?_)
      rotate_left
      · exact absurd (nI_le (by omega) (by omega)) c
      refine lv_iload_n hx hb dX1_sumUntil_51 rfl (lv_at hl 1 rfl) ?_
      exact pI hx hb hr hlk hH (by rw [he]; rfl) dX1_sumUntil_52
    | cons x xs ih =>
      intro i v ls hd hi he hl
      obtain ⟨hx0, hlt, hd2⟩ := drop_c hd
      refine lv_iload_n hx hb dX1_sumUntil_4 rfl (lv_at hl 0 rfl) ?_
      refine lv_aload_n hx hb dX1_sumUntil_5 rfl (lv_at hl 2 rfl) ?_
      refine gf hx hb hts hown hE lkX1_12 hO rfl dX1_sumUntil_6 ?_
      refine pV hx hb hml hts hown hE kwX1_18 (c_size E a es.length ad H hL) hOa rfl (Nat.le_of_ble_eq_true rfl) rfl hl.1 rfl (Nat.le_of_ble_eq_true rfl) (Nat.le_refl _) (Nat.le_refl _) dX1_sumUntil_9 ?_
      refine lv_icmp_ge (tgt := 51) hx hb dX1_sumUntil_12 (by decide) (fun c => ?_) (fun c => ?_)
      · exact absurd c (nI_ge hlt (by omega))
      refine lv_aload_n hx hb dX1_sumUntil_15 rfl (lv_at hl 2 rfl) ?_
      refine gf hx hb hts hown hE lkX1_12 hO rfl dX1_sumUntil_16 ?_
      refine lv_iload_n hx hb dX1_sumUntil_19 rfl (lv_at hl 0 rfl) ?_
      refine pV hx hb hml hts hown hE kwX1_41 (c_get E a es.length i ad H hL hlt) hOa rfl (Nat.le_of_ble_eq_true rfl) rfl hl.1 rfl (Nat.le_of_ble_eq_true rfl) (Nat.le_refl _) (Nat.le_refl _) dX1_sumUntil_20 ?_
      refine cst hx hb hts hown hE qw1_229 (hEs i x hx0) rfl dX1_sumUntil_23 ?_
      refine lv_astore (lv' := [(4, .ref (ad i)), (3, .int (nI i)), (2, .int v), (0, .ref d), (1, .int day)]) hx hb dX1_sumUntil_26 hl (by decide) rfl (fun ls hl => ?_)
      refine lv_aload hx hb dX1_sumUntil_28 (lv_at hl 0 rfl) ?_
      refine gf hx hb hts hown hE lkX1_45 (hEs i x hx0) rfl dX1_sumUntil_30 ?_
      refine lv_iload_n hx hb dX1_sumUntil_33 rfl (lv_at hl 4 rfl) ?_
      refine lv_icmp_gt (tgt := 45) hx hb dX1_sumUntil_34 (by decide) (fun c => ?_) (fun c => ?_)
      · refine lv_iinc (v := nI (i + 1)) (lv' := [(3, .int (nI (i + 1))), (4, .ref (ad i)), (2, .int v), (0, .ref d), (1, .int day)]) hx hb dX1_sumUntil_45 hl (k := 1) rfl (nI_1 i) (by decide) rfl (fun ls hl => ?_)
        refine lv_goto (tgt := 4) hx hb dX1_sumUntil_48 (by decide) ?_
        exact ih (i + 1) v ls hd2 (by omega) (he.trans (by simp only [smL]; rw [if_neg (Int32.not_le.mpr c)])) (lv_sub hl [0, 2, 3, 4] rfl)
      · refine lv_iload_n hx hb dX1_sumUntil_37 rfl (lv_at hl 2 rfl) ?_
        refine lv_aload hx hb dX1_sumUntil_38 (lv_at hl 0 rfl) ?_
        refine gf hx hb hts hown hE lkX1_37 (hEs i x hx0) rfl dX1_sumUntil_40 ?_
        refine lv_iadd hx hb dX1_sumUntil_43 ?_
        refine lv_istore_n (lv' := [(2, .int (v + x.2)), (4, .ref (ad i)), (3, .int (nI i)), (0, .ref d), (1, .int day)]) hx hb dX1_sumUntil_44 rfl hl (by decide) rfl (fun ls hl => ?_)
        refine lv_iinc (v := nI (i + 1)) (lv' := [(3, .int (nI (i + 1))), (2, .int (v + x.2)), (4, .ref (ad i)), (0, .ref d), (1, .int day)]) hx hb dX1_sumUntil_45 hl (k := 2) rfl (nI_1 i) (by decide) rfl (fun ls hl => ?_)
        refine lv_goto (tgt := 4) hx hb dX1_sumUntil_48 (by decide) ?_
        exact ih (i + 1) (v + x.2) ls hd2 (by omega) (he.trans (by simp only [smL]; rw [if_pos (Int32.not_lt.mp c)])) (lv_sub hl [0, 1, 3, 4] rfl)
  exact loop es 0 0 ls rfl (Nat.zero_le _) rfl (lv_sub hl [0, 1, 2, 3] rfl)
end
section
set_option maxRecDepth 100000 in
set_option maxHeartbeats 4000000 in
/-- Math.floorMod(d, 7) -/
theorem c_fmod (E : ET) (d : Nat) (H : Heap) (hd : d < 2 ^ 31) : PCon E yJ9_floorMod_7cf53 cJ9_floorMod_7cf53 3 (some FieldType.int) 1 [.int (nI d), .int 7] H (some (.int (nI (d % 7)))) := by
  refine PCon.ofF (C := RJ9) rfl (by decide +kernel) (Nat.le_of_ble_eq_true rfl) ?_
  intro p e s m below meth co ls hx hb hr hlk hml hown hts hE hH hl
  have hl : lv_has ls 3 [(0, .int (nI d)), (1, .int 7)] := hl
  refine lv_iload_n hx hb dJ9_floorMod_7cf53_0 rfl (lv_at hl 0 rfl) ?_
  refine lv_iload_n hx hb dJ9_floorMod_7cf53_1 rfl (lv_at hl 1 rfl) ?_
  refine lv_irem hx hb dJ9_floorMod_7cf53_2 (by decide) ?_
  have hr7 : nI d - nI d / 7 * 7 = nI (d % 7) := pk_rem hd (by decide) (by decide)
  refine lv_istore_n (lv' := [(2, .int (nI d - nI d / 7 * 7)), (0, .int (nI d)), (1, .int 7)]) hx hb dJ9_floorMod_7cf53_3 rfl hl (by decide) rfl (fun ls hl => ?_)
  refine lv_iload_n hx hb dJ9_floorMod_7cf53_4 rfl (lv_at hl 1 rfl) ?_
  refine lv_iload_n hx hb dJ9_floorMod_7cf53_5 rfl (lv_at hl 2 rfl) ?_
  refine lv_ixor hx hb dJ9_floorMod_7cf53_6 ?_
  refine lv_if_ge (tgt := 18) hx hb dJ9_floorMod_7cf53_7 (by decide) (fun c => ?_) (fun c => ?_)
  rotate_left
  · exact absurd (xor_pos hd) c
  refine lv_iload_n hx hb dJ9_floorMod_7cf53_18 rfl (lv_at hl 0 rfl) ?_
  exact pI hx hb hr hlk hH hr7 dJ9_floorMod_7cf53_19

set_option maxRecDepth 100000 in
set_option maxHeartbeats 4000000 in
/-- Math.floorDiv(x, 3600000) -/
theorem c_fdiv (E : ET) (x : Int64) (H : Heap) : PCon E yJ9_floorDiv_f86c9 cJ9_floorDiv_f86c9 6 (some FieldType.long) 1 [.long x, .long 3600000] H (some (.long (flo x))) := by
  refine PCon.ofF (C := RJ9) rfl (by decide +kernel) (Nat.le_of_ble_eq_true rfl) ?_
  intro p e s m below meth co ls hx hb hr hlk hml hown hts hE hH hl
  have hl : lv_has ls 6 [(0, .long x), (2, .long 3600000)] := hl
  refine lv_lload_n hx hb dJ9_floorDiv_f86c9_0 rfl (lv_at hl 0 rfl) ?_
  refine lv_lload_n hx hb dJ9_floorDiv_f86c9_1 rfl (lv_at hl 1 rfl) ?_
  refine lv_ldiv hx hb dJ9_floorDiv_f86c9_2 (by decide) ?_
  refine lv_lstore (lv' := [(4, .long (x / 3600000)), (0, .long x), (2, .long 3600000)]) hx hb dJ9_floorDiv_f86c9_3 hl (by decide) rfl (fun ls hl => ?_)
  refine lv_lload_n hx hb dJ9_floorDiv_f86c9_5 rfl (lv_at hl 1 rfl) ?_
  refine lv_lload_n hx hb dJ9_floorDiv_f86c9_6 rfl (lv_at hl 2 rfl) ?_
  refine lv_lxor hx hb dJ9_floorDiv_f86c9_7 ?_
  refine lv_lconst (v := 0) hx hb dJ9_floorDiv_f86c9_8 (by decide) ?_
  refine W.lcmp hx hb dJ9_floorDiv_f86c9_9 ?_
  refine lv_if_ge (tgt := 27) hx hb dJ9_floorDiv_f86c9_10 (by decide) (fun c => ?_) (fun c => ?_)
  · refine lv_lload hx hb dJ9_floorDiv_f86c9_27 (lv_at hl 0 rfl) ?_
    exact pL hx hb hr hlk hH (flo_a c) dJ9_floorDiv_f86c9_29
  · refine lv_lload hx hb dJ9_floorDiv_f86c9_13 (lv_at hl 0 rfl) ?_
    refine lv_lload_n hx hb dJ9_floorDiv_f86c9_15 rfl (lv_at hl 2 rfl) ?_
    refine lv_lmul hx hb dJ9_floorDiv_f86c9_16 ?_
    refine lv_lload_n hx hb dJ9_floorDiv_f86c9_17 rfl (lv_at hl 1 rfl) ?_
    refine W.lcmp hx hb dJ9_floorDiv_f86c9_18 ?_
    refine lv_if_eq (tgt := 27) hx hb dJ9_floorDiv_f86c9_19 (by decide) (fun c2 => ?_) (fun c2 => ?_)
    · refine lv_lload hx hb dJ9_floorDiv_f86c9_27 (lv_at hl 0 rfl) ?_
      exact pL hx hb hr hlk hH (flo_b c2) dJ9_floorDiv_f86c9_29
    · refine lv_lload hx hb dJ9_floorDiv_f86c9_22 (lv_at hl 0 rfl) ?_
      refine lv_lconst (v := 1) hx hb dJ9_floorDiv_f86c9_24 (by decide) ?_
      refine lv_lsub hx hb dJ9_floorDiv_f86c9_25 ?_
      exact pL hx hb hr hlk hH (flo_c c c2) dJ9_floorDiv_f86c9_26
end
section
/-! days, trades -/
def opn (h0 h1 : Dy) (d : Nat) : Bool := decide (d % 7 < 5) && (!dHas h0 (nI d) && !dHas h1 (nI d))
def rolF (h0 h1 : Dy) : Nat → Nat → Nat
  | 0, d => d
  | n + 1, d => if opn h0 h1 d then d else rolF h0 h1 n (d + 1)
/-- the rolled day -/
def rol (h0 h1 : Dy) (d : Nat) : Nat := rolF h0 h1 1000 d
theorem rolF_ge (h0 h1 : Dy) : ∀ n d, d ≤ rolF h0 h1 n d ∧ rolF h0 h1 n d ≤ d + n
  | 0, d => ⟨Nat.le_refl _, Nat.le_refl _⟩
  | n + 1, d => by
    unfold rolF
    by_cases c : opn h0 h1 d = true
    · rw [if_pos c]; omega
    · rw [if_neg c]
      have := rolF_ge h0 h1 n (d + 1)
      omega
/-- a trade: its terms by their places (party, lots, paysFixed, fixed, first, length, periods, spread, dayCount, compounding), its breaks, its handovers -/
abbrev TR : Type := (Nat → Int32) × Dy × Dy
def dys (T : Nat → Int32) (bf : Nat → Int32) (k : Nat) : Int64 := if T 8 = 0 then (bf (k + 1) - bf k).toInt64 else (T 5).toInt64
def rte (fx : Dy) (bf : Nat → Int32) (k : Nat) : Int64 := (dLast fx (bf k) 0).toInt64
/-- what was compounded, and the floating interest of the last period, behind k periods -/
def flS (T : Nat → Int32) (bf : Nat → Int32) (fx : Dy) : Nat → Int64 × Int64
  | 0 => (0, 0)
  | k + 1 =>
    let r := rte fx bf k
    let g := flo ((3600000 + (flS T bf fx k).1) * (if T 9 = 1 then r + (T 7).toInt64 else r) * dys T bf k)
    ((flS T bf fx k).1 + g, if T 9 = 0 then (r + (T 7).toInt64) * dys T bf k else if T 9 = 1 then g else g + (T 7).toInt64 * dys T bf k)
def fltS (T : Nat → Int32) (bf : Nat → Int32) (fx : Dy) (k : Nat) : Int64 := (flS T bf fx (k + 1)).2
def lotS (T : Nat → Int32) (bs : Dy) (bf : Nat → Int32) (k : Nat) : Int32 := T 1 - dSum bs (bf k)
def rstS (T : Nat → Int32) (bs : Dy) : Int32 := T 1 - dSum bs 3000
def hldS (T : Nat → Int32) (hs : Dy) (day : Int32) : Int32 := dLast hs day (T 0)
def gnS (T : Nat → Int32) (bf : Nat → Int32) (fx : Dy) (k : Nat) : Int64 := fltS T bf fx k - (T 3).toInt64 * dys T bf k
def flwS (T : Nat → Int32) (bs : Dy) (bf : Nat → Int32) (fx : Dy) (k : Nat) : Int64 := (lotS T bs bf k).toInt64 * (if T 2 = 0 then -(gnS T bf fx k) else gnS T bf fx k)
/-- the flows of the first k periods that are paid from one day to another while the trade is of the party -/
def cshS (T : Nat → Int32) (bs hs : Dy) (bf : Nat → Int32) (fx : Dy) (pa d1 d2 : Int32) : Nat → Int64
  | 0 => 0
  | k + 1 => if d1 ≤ bf (k + 1) ∧ bf (k + 1) ≤ d2 ∧ hldS T hs (bf (k + 1)) = pa then cshS T bs hs bf fx pa d1 d2 k + flwS T bs bf fx k else cshS T bs hs bf fx pa d1 d2 k
/-- the first pay day, from a day on, of r periods from k on, while the trade is of the party; -1 if there is none -/
def npS (T : Nat → Int32) (hs : Dy) (bf : Nat → Int32) (pa day : Int32) : Nat → Nat → Int32
  | 0, _ => -1
  | r + 1, k => if day ≤ bf (k + 1) ∧ hldS T hs (bf (k + 1)) = pa then bf (k + 1) else npS T hs bf pa day r (k + 1)
def fitS (T U : Nat → Int32) : Bool := decide (¬ T 2 = U 2) && (decide (T 3 = U 3) && (decide (T 7 = U 7) && (decide (T 4 = U 4) && (decide (T 5 = U 5) && (decide (T 6 = U 6) && (decide (T 8 = U 8) && decide (T 9 = U 9)))))))
/-- of the first k periods: does one start on the day or later; are all such paid while both trades are of one party -/
def smpS (T U : Nat → Int32) (hs hu : Dy) (bf : Nat → Int32) (day : Int32) : Nat → Bool × Bool
  | 0 => (false, true)
  | k + 1 => if day ≤ bf k then (true, (smpS T U hs hu bf day k).2 && decide (hldS T hs (bf (k + 1)) = hldS U hu (bf (k + 1)))) else smpS T U hs hu bf day k
def smeS (T U : Nat → Int32) (hs hu : Dy) (bf : Nat → Int32) (day : Int32) (n : Nat) : Bool := (smpS T U hs hu bf day n).1 && (smpS T U hs hu bf day n).2
theorem smpS_f {T U : Nat → Int32} {hs hu : Dy} {bf : Nat → Int32} {day : Int32} {k : Nat} (h : (smpS T U hs hu bf day k).2 = false) : ∀ n, k ≤ n → (smpS T U hs hu bf day n).2 = false := by
  intro n hn
  induction n with
  | zero => cases Nat.le_zero.mp hn; exact h
  | succ n ih =>
    rcases Nat.lt_or_ge k (n + 1) with q | q
    · have := ih (by omega)
      unfold smpS
      by_cases c : day ≤ bf n
      · rw [if_pos c]; simp [this]
      · rw [if_neg c]; exact this
    · cases Nat.le_antisymm hn q; exact h
/-- a calendar at q, a trade at w -/
def CR (E : ET) (q : Nat) (h0 h1 : Dy) (H : Heap) : Prop := ∃ d0 d1, OB E 1 [.ref d0, .ref d1] q H ∧ DR E d0 h0 H ∧ DR E d1 h1 H
abbrev tfs (T : Nat → Int32) (db dh bd : Nat) : List Value := [.int (T 0), .int (T 1), .int (T 2), .int (T 3), .int (T 4), .int (T 5), .int (T 6), .int (T 7), .int (T 8), .int (T 9), .ref db, .ref dh, .ref bd]
def SRx (E : ET) (w : Nat) (T : Nat → Int32) (db dh bd : Nat) (bf : Nat → Int32) (bs hs : Dy) (H : Heap) : Prop := OB E 4 (tfs T db dh bd) w H ∧ DR E db bs H ∧ DR E dh hs H ∧ IA E 11 bf bd H
end
section
set_option maxRecDepth 100000 in
set_option maxHeartbeats 4000000 in
/-- Calendar.opensOn -/
theorem c_opensOn (E : ET) (q d : Nat) (h0 h1 : Dy) (H : Heap) (hd : d < 2 ^ 31) (h : CR E q h0 h1 H) : PCon E yX0_opensOn cX0_opensOn 2 (some FieldType.boolean) 6 [.ref q, .int (nI d)] H (some (.int (if opn h0 h1 d then 1 else 0))) := by
  refine PCon.of (C := RX0) rfl (by decide +kernel) (Nat.le_of_ble_eq_true rfl) ?_
  intro p e s m below meth co ls hx hb hr hlk hml hown hts hE hH hl
  have hl : lv_has ls 2 [(0, .ref q), (1, .int (nI d))] := hl
  obtain ⟨d0, d1, hO, ⟨a0, ad0, hd0⟩, ⟨a1, ad1, hd1⟩⟩ := h
  refine lv_iload_n hx hb dX0_opensOn_0 rfl (lv_at hl 1 rfl) ?_
  refine lv_bipush (v := 7) hx hb dX0_opensOn_1 (by decide) ?_
  refine pS hx hb hml hts hown hE kwX0_21 (c_fmod E d H hd) (Nat.le_of_ble_eq_true rfl) rfl hl.1 rfl (Nat.le_of_ble_eq_true rfl) (Nat.le_refl _) (Nat.le_refl _) dX0_opensOn_3 ?_
  refine lv_iconst (v := 5) hx hb dX0_opensOn_6 (by decide) ?_
  refine lv_icmp_ge (tgt := 36) hx hb dX0_opensOn_7 (by decide) (fun c => ?_) (fun c => ?_)
  · refine lv_iconst (v := 0) hx hb dX0_opensOn_36 (by decide) ?_
    exact pZ hx hb hr hlk hH (by rw [opn, decide_eq_false (fun q => absurd ((nI_leI (a := 5) (b := d % 7) (by decide) (by omega)).mp c) (by omega))]; rfl) dX0_opensOn_37
  · have c5 : d % 7 < 5 := by
      rcases Nat.lt_or_ge (d % 7) 5 with q | q
      · exact q
      · exact absurd ((nI_leI (a := 5) (b := d % 7) (by decide) (by omega)).mpr q) c
    refine lv_aload_n hx hb dX0_opensOn_10 rfl (lv_at hl 0 rfl) ?_
    refine gf hx hb hts hown hE lkX0_12 hO rfl dX0_opensOn_11 ?_
    refine lv_iload_n hx hb dX0_opensOn_14 rfl (lv_at hl 1 rfl) ?_
    have hM := c_has E d0 a0 ad0 h0 (nI d) H hd0
    refine pV hx hb hml hts hown hE kwX0_27 hM hd0.1 rfl (Nat.le_of_ble_eq_true rfl) rfl hl.1 rfl (Nat.le_of_ble_eq_true rfl) (Nat.le_refl _) (Nat.le_refl _) dX0_opensOn_15 ?_
    cases x0 : dHas h0 (nI d) with
    | true =>
      refine lv_if_ne (tgt := 36) hx hb dX0_opensOn_18 (by decide) (fun c2 => ?_) (fun c2 => ?_)
      rotate_left
      · exact absurd c2 (by decide)
      refine lv_iconst (v := 0) hx hb dX0_opensOn_36 (by decide) ?_
      exact pZ hx hb hr hlk hH (by simp [opn, x0]) dX0_opensOn_37
    | false =>
      refine lv_if_ne (tgt := 36) hx hb dX0_opensOn_18 (by decide) (fun c2 => ?_) (fun c2 => ?_)
      · exact absurd (by decide) c2
      refine lv_aload_n hx hb dX0_opensOn_21 rfl (lv_at hl 0 rfl) ?_
      refine gf hx hb hts hown hE lkX0_18 hO rfl dX0_opensOn_22 ?_
      refine lv_iload_n hx hb dX0_opensOn_25 rfl (lv_at hl 1 rfl) ?_
      have hM2 := c_has E d1 a1 ad1 h1 (nI d) H hd1
      refine pV hx hb hml hts hown hE kwX0_27 hM2 hd1.1 rfl (Nat.le_of_ble_eq_true rfl) rfl hl.1 rfl (Nat.le_of_ble_eq_true rfl) (Nat.le_refl _) (Nat.le_refl _) dX0_opensOn_26 ?_
      cases x1 : dHas h1 (nI d) with
      | true =>
        refine lv_if_ne (tgt := 36) hx hb dX0_opensOn_29 (by decide) (fun c3 => ?_) (fun c3 => ?_)
        rotate_left
        · exact absurd c3 (by decide)
        refine lv_iconst (v := 0) hx hb dX0_opensOn_36 (by decide) ?_
        exact pZ hx hb hr hlk hH (by simp [opn, x1]) dX0_opensOn_37
      | false =>
        refine lv_if_ne (tgt := 36) hx hb dX0_opensOn_29 (by decide) (fun c3 => ?_) (fun c3 => ?_)
        · exact absurd (by decide) c3
        refine lv_iconst (v := 1) hx hb dX0_opensOn_32 (by decide) ?_
        refine lv_goto (tgt := 37) hx hb dX0_opensOn_33 (by decide) ?_
        exact pZ hx hb hr hlk hH (by simp [opn, x0, x1, c5]) dX0_opensOn_37

set_option maxRecDepth 100000 in
set_option maxHeartbeats 4000000 in
/-- Calendar.rolledDayOf -/
theorem c_rol (E : ET) (q d : Nat) (h0 h1 : Dy) (H : Heap) (hd : d < 2 ^ 30) (h : CR E q h0 h1 H) : PCon E yX0_rolledDayOf cX0_rolledDayOf 4 (some FieldType.int) 7 [.ref q, .int (nI d)] H (some (.int (nI (rol h0 h1 d)))) := by
  refine PCon.of (C := RX0) rfl (by decide +kernel) (Nat.le_of_ble_eq_true rfl) ?_
  intro p e s m below meth co ls hx hb hr hlk hml hown hts hE hH hl
  have hl : lv_has ls 4 [(0, .ref q), (1, .int (nI d))] := hl
  have hO := h
  obtain ⟨d0, d1, hO, hd0, hd1⟩ := hO
  refine lv_iload_n hx hb dX0_rolledDayOf_0 rfl (lv_at hl 1 rfl) ?_
  refine lv_istore_n (lv' := [(2, .int (nI d)), (0, .ref q), (1, .int (nI d))]) hx hb dX0_rolledDayOf_1 rfl hl (by decide) rfl (fun ls hl => ?_)
  refine lv_iconst (v := 0) hx hb dX0_rolledDayOf_2 (by decide) ?_
  refine lv_istore_n (lv' := [(3, .int 0), (2, .int (nI d)), (0, .ref q), (1, .int (nI d))]) hx hb dX0_rolledDayOf_3 rfl hl (by decide) rfl (fun ls hl => ?_)
  have loop : ∀ (n i r : Nat) (ls : Array Slot), i + n = 1000 → r = d + i → rol h0 h1 d = rolF h0 h1 n r → lv_has ls 4 [(3, .int (nI i)), (2, .int (nI r)), (0, .ref q), (1, .int (nI d))] → W p (eL E) e (rmk 7 0 0) s m ([.ref q, .int (nI d)]).toArray below meth co H [] 0 0 (MQ below (PQ (some (.int (nI (rol h0 h1 d))))) ([.ref q, .int (nI d)]).toArray s 0 0 (fun _ => False)) (F0 m 4 ls []) := by
    intro n
    induction n with
    | zero =>
      intro i r ls hi hr2 he hl
      have hi2 : i = 1000 := by omega
      subst hi2
      refine lv_iload_n hx hb dX0_rolledDayOf_4 rfl (lv_at hl 0 rfl) ?_
      refine lv_sipush (v := 1000) hx hb dX0_rolledDayOf_5 (by decide) ?_
      refine lv_icmp_ge (tgt := 28) hx hb dX0_rolledDayOf_8 (by decide) (fun c => ?_) (fun c => ?_)
      rotate_left
      · exact absurd (nI_le (a := 1000) (b := 1000) (by decide) (by decide)) c
      refine lv_iload_n hx hb dX0_rolledDayOf_28 rfl (lv_at hl 1 rfl) ?_
      exact pI hx hb hr hlk hH (by rw [he]; rfl) dX0_rolledDayOf_29
    | succ n ih =>
      intro i r ls hi hr2 he hl
      refine lv_iload_n hx hb dX0_rolledDayOf_4 rfl (lv_at hl 0 rfl) ?_
      refine lv_sipush (v := 1000) hx hb dX0_rolledDayOf_5 (by decide) ?_
      refine lv_icmp_ge (tgt := 28) hx hb dX0_rolledDayOf_8 (by decide) (fun c => ?_) (fun c => ?_)
      · exact absurd c (nI_ge (b := 1000) (by omega) (by decide))
      refine lv_aload_n hx hb dX0_rolledDayOf_11 rfl (lv_at hl 2 rfl) ?_
      refine lv_iload_n hx hb dX0_rolledDayOf_12 rfl (lv_at hl 1 rfl) ?_
      refine pV hx hb hml hts hown hE kwX0_31 (c_opensOn E q r h0 h1 H (by omega) h) hO rfl (Nat.le_of_ble_eq_true rfl) rfl hl.1 rfl (Nat.le_of_ble_eq_true rfl) (Nat.le_refl _) (Nat.le_refl _) dX0_rolledDayOf_13 ?_
      cases x0 : opn h0 h1 r with
      | true =>
        refine lv_if_ne (tgt := 28) hx hb dX0_rolledDayOf_16 (by decide) (fun c3 => ?_) (fun c3 => ?_)
        rotate_left
        · exact absurd c3 (by decide)
        refine lv_iload_n hx hb dX0_rolledDayOf_28 rfl (lv_at hl 1 rfl) ?_
        exact pI hx hb hr hlk hH (by rw [he]; simp [rolF, x0]) dX0_rolledDayOf_29
      | false =>
        refine lv_if_ne (tgt := 28) hx hb dX0_rolledDayOf_16 (by decide) (fun c3 => ?_) (fun c3 => ?_)
        · exact absurd (by decide) c3
        refine lv_iinc (v := nI (r + 1)) (lv' := [(2, .int (nI (r + 1))), (3, .int (nI i)), (0, .ref q), (1, .int (nI d))]) hx hb dX0_rolledDayOf_19 hl (k := 1) rfl (nI_1 r) (by decide) rfl (fun ls hl => ?_)
        refine lv_iinc (v := nI (i + 1)) (lv' := [(3, .int (nI (i + 1))), (2, .int (nI (r + 1))), (0, .ref q), (1, .int (nI d))]) hx hb dX0_rolledDayOf_22 hl (k := 1) rfl (nI_1 i) (by decide) rfl (fun ls hl => ?_)
        refine lv_goto (tgt := 4) hx hb dX0_rolledDayOf_25 (by decide) ?_
        exact ih (i + 1) (r + 1) ls (by omega) (by omega) (he.trans (by simp [rolF, x0])) (lv_sub hl [0, 1, 2, 3] rfl)
  exact loop 1000 0 d ls rfl rfl rfl (lv_sub hl [0, 1, 2, 3] rfl)
end
section
set_option maxRecDepth 100000 in
set_option maxHeartbeats 4000000 in
/-- Swap.startOf -/
theorem c_start (E : ET) (w : Nat) (T : Nat → Int32) (db dh bd : Nat) (bf : Nat → Int32) (bs hs : Dy) (k : Nat) (H : Heap) (hk : k < 11) (h : SRx E w T db dh bd bf bs hs H) : PCon E yX3_startOf cX3_startOf 2 (some FieldType.int) 1 [.ref w, .int (nI k)] H (some (.int (bf k))) := by
  refine PCon.of (C := RX3) rfl (by decide +kernel) (Nat.le_of_ble_eq_true rfl) ?_
  intro p e s m below meth co ls hx hb hr hlk hml hown hts hE hH hl
  have hl : lv_has ls 2 [(0, .ref w), (1, .int (nI k))] := hl
  obtain ⟨hO, hB, hHd, hA⟩ := id h
  refine lv_iload_n hx hb dX3_startOf_0 rfl (lv_at hl 1 rfl) ?_
  refine lv_if_lt (tgt := 22) hx hb dX3_startOf_1 (by decide) (fun c => ?_) (fun c => ?_)
  · exact absurd c (nI_pos (by omega))
  refine lv_iload_n hx hb dX3_startOf_4 rfl (lv_at hl 1 rfl) ?_
  refine lv_aload_n hx hb dX3_startOf_5 rfl (lv_at hl 0 rfl) ?_
  refine gf hx hb hts hown hE lkX3_53 hO rfl dX3_startOf_6 ?_
  refine aLI hx hb hE hA dX3_startOf_9 ?_
  refine lv_icmp_ge (tgt := 22) hx hb dX3_startOf_10 (by decide) (fun c => ?_) (fun c => ?_)
  · exact absurd c (nI_ge hk (by decide))
  refine lv_aload_n hx hb dX3_startOf_13 rfl (lv_at hl 0 rfl) ?_
  refine gf hx hb hts hown hE lkX3_53 hO rfl dX3_startOf_14 ?_
  refine lv_iload_n hx hb dX3_startOf_17 rfl (lv_at hl 1 rfl) ?_
  refine aI hx hb hE hA rfl hk (by decide) rfl dX3_startOf_18 ?_
  refine lv_goto (tgt := 23) hx hb dX3_startOf_19 (by decide) ?_
  exact pI hx hb hr hlk hH rfl dX3_startOf_23

set_option maxRecDepth 100000 in
set_option maxHeartbeats 4000000 in
/-- Swap.endOf -/
theorem c_end (E : ET) (w : Nat) (T : Nat → Int32) (db dh bd : Nat) (bf : Nat → Int32) (bs hs : Dy) (k : Nat) (H : Heap) (hk : k < 10) (h : SRx E w T db dh bd bf bs hs H) : PCon E yX3_endOf cX3_endOf 2 (some FieldType.int) 2 [.ref w, .int (nI k)] H (some (.int (bf (k + 1)))) := by
  refine PCon.of (C := RX3) rfl (by decide +kernel) (Nat.le_of_ble_eq_true rfl) ?_
  intro p e s m below meth co ls hx hb hr hlk hml hown hts hE hH hl
  have hl : lv_has ls 2 [(0, .ref w), (1, .int (nI k))] := hl
  obtain ⟨hO, hB, hHd, hA⟩ := id h
  refine lv_aload_n hx hb dX3_endOf_0 rfl (lv_at hl 0 rfl) ?_
  refine lv_iload_n hx hb dX3_endOf_1 rfl (lv_at hl 1 rfl) ?_
  refine lv_iconst (v := 1) hx hb dX3_endOf_2 (by decide) ?_
  refine lv_iadd hx hb dX3_endOf_3 ?_
  rw [show nI k + 1 = nI (k + 1) from nI_1 k]
  refine pV hx hb hml hts hown hE kwX3_63 (c_start E w T db dh bd bf bs hs (k + 1) H (by omega) h) hO rfl (Nat.le_of_ble_eq_true rfl) rfl hl.1 rfl (Nat.le_of_ble_eq_true rfl) (Nat.le_refl _) (Nat.le_refl _) dX3_endOf_4 ?_
  exact pI hx hb hr hlk hH rfl dX3_endOf_7

set_option maxRecDepth 100000 in
set_option maxHeartbeats 4000000 in
/-- Swap.lotsOf -/
theorem c_lots (E : ET) (w : Nat) (T : Nat → Int32) (db dh bd : Nat) (bf : Nat → Int32) (bs hs : Dy) (k : Nat) (H : Heap) (hk : k < 11) (h : SRx E w T db dh bd bf bs hs H) : PCon E yX3_lotsOf cX3_lotsOf 2 (some FieldType.int) 5 [.ref w, .int (nI k)] H (some (.int (lotS T bs bf k))) := by
  refine PCon.of (C := RX3) rfl (by decide +kernel) (Nat.le_of_ble_eq_true rfl) ?_
  intro p e s m below meth co ls hx hb hr hlk hml hown hts hE hH hl
  have hl : lv_has ls 2 [(0, .ref w), (1, .int (nI k))] := hl
  obtain ⟨hO, hB, hHd, hA⟩ := id h
  obtain ⟨a1, ad1, hdb⟩ := hB
  refine lv_aload_n hx hb dX3_lotsOf_0 rfl (lv_at hl 0 rfl) ?_
  refine gf hx hb hts hown hE lkX3_15 hO rfl dX3_lotsOf_1 ?_
  refine lv_aload_n hx hb dX3_lotsOf_4 rfl (lv_at hl 0 rfl) ?_
  refine gf hx hb hts hown hE lkX3_46 hO rfl dX3_lotsOf_5 ?_
  refine lv_aload_n hx hb dX3_lotsOf_8 rfl (lv_at hl 0 rfl) ?_
  refine lv_iload_n hx hb dX3_lotsOf_9 rfl (lv_at hl 1 rfl) ?_
  refine pV hx hb hml hts hown hE kwX3_63 (c_start E w T db dh bd bf bs hs k H hk h) hO rfl (Nat.le_of_ble_eq_true rfl) rfl hl.1 rfl (Nat.le_of_ble_eq_true rfl) (Nat.le_refl _) (Nat.le_refl _) dX3_lotsOf_10 ?_
  refine pV hx hb hml hts hown hE kwX3_66 (c_sum E db a1 ad1 bs (bf k) H hdb) hdb.1 rfl (Nat.le_of_ble_eq_true rfl) rfl hl.1 rfl (Nat.le_of_ble_eq_true rfl) (Nat.le_refl _) (Nat.le_refl _) dX3_lotsOf_13 ?_
  refine lv_isub hx hb dX3_lotsOf_16 ?_
  exact pI hx hb hr hlk hH rfl dX3_lotsOf_17

set_option maxRecDepth 100000 in
set_option maxHeartbeats 4000000 in
/-- Swap.restOfLots -/
theorem c_rest (E : ET) (w : Nat) (T : Nat → Int32) (db dh bd : Nat) (bf : Nat → Int32) (bs hs : Dy)  (H : Heap)  (h : SRx E w T db dh bd bf bs hs H) : PCon E yX3_restOfLots cX3_restOfLots 1 (some FieldType.int) 5 [.ref w] H (some (.int (rstS T bs))) := by
  refine PCon.of (C := RX3) rfl (by decide +kernel) (Nat.le_of_ble_eq_true rfl) ?_
  intro p e s m below meth co ls hx hb hr hlk hml hown hts hE hH hl
  have hl : lv_has ls 1 [(0, .ref w)] := hl
  obtain ⟨hO, hB, hHd, hA⟩ := id h
  obtain ⟨a1, ad1, hdb⟩ := hB
  refine lv_aload_n hx hb dX3_restOfLots_0 rfl (lv_at hl 0 rfl) ?_
  refine gf hx hb hts hown hE lkX3_15 hO rfl dX3_restOfLots_1 ?_
  refine lv_aload_n hx hb dX3_restOfLots_4 rfl (lv_at hl 0 rfl) ?_
  refine gf hx hb hts hown hE lkX3_46 hO rfl dX3_restOfLots_5 ?_
  refine lv_sipush (v := 3000) hx hb dX3_restOfLots_8 (by decide) ?_
  refine pV hx hb hml hts hown hE kwX3_66 (c_sum E db a1 ad1 bs 3000 H hdb) hdb.1 rfl (Nat.le_of_ble_eq_true rfl) rfl hl.1 rfl (Nat.le_of_ble_eq_true rfl) (Nat.le_refl _) (Nat.le_refl _) dX3_restOfLots_11 ?_
  refine lv_isub hx hb dX3_restOfLots_14 ?_
  exact pI hx hb hr hlk hH rfl dX3_restOfLots_15

set_option maxRecDepth 100000 in
set_option maxHeartbeats 4000000 in
/-- Swap.holderOn -/
theorem c_hold (E : ET) (w : Nat) (T : Nat → Int32) (db dh bd : Nat) (bf : Nat → Int32) (bs hs : Dy) (day : Int32) (H : Heap)  (h : SRx E w T db dh bd bf bs hs H) : PCon E yX3_holderOn cX3_holderOn 2 (some FieldType.int) 5 [.ref w, .int day] H (some (.int (hldS T hs day))) := by
  refine PCon.of (C := RX3) rfl (by decide +kernel) (Nat.le_of_ble_eq_true rfl) ?_
  intro p e s m below meth co ls hx hb hr hlk hml hown hts hE hH hl
  have hl : lv_has ls 2 [(0, .ref w), (1, .int day)] := hl
  obtain ⟨hO, hB, hHd, hA⟩ := id h
  obtain ⟨a2, ad2, hdh⟩ := hHd
  refine lv_aload_n hx hb dX3_holderOn_0 rfl (lv_at hl 0 rfl) ?_
  refine gf hx hb hts hown hE lkX3_50 hO rfl dX3_holderOn_1 ?_
  refine lv_iload_n hx hb dX3_holderOn_4 rfl (lv_at hl 1 rfl) ?_
  refine lv_aload_n hx hb dX3_holderOn_5 rfl (lv_at hl 0 rfl) ?_
  refine gf hx hb hts hown hE lkX3_9 hO rfl dX3_holderOn_6 ?_
  refine pV hx hb hml hts hown hE kwX3_69 (c_last E dh a2 ad2 hs day (T 0) H hdh) hdh.1 rfl (Nat.le_of_ble_eq_true rfl) rfl hl.1 rfl (Nat.le_of_ble_eq_true rfl) (Nat.le_refl _) (Nat.le_refl _) dX3_holderOn_9 ?_
  exact pI hx hb hr hlk hH rfl dX3_holderOn_12

set_option maxRecDepth 100000 in
set_option maxHeartbeats 4000000 in
/-- Swap.daysOf -/
theorem c_days (E : ET) (w : Nat) (T : Nat → Int32) (db dh bd : Nat) (bf : Nat → Int32) (bs hs : Dy) (k : Nat) (H : Heap) (hk : k < 10) (h : SRx E w T db dh bd bf bs hs H) : PCon E yX3_daysOf cX3_daysOf 2 (some FieldType.long) 2 [.ref w, .int (nI k)] H (some (.long (dys T bf k))) := by
  refine PCon.of (C := RX3) rfl (by decide +kernel) (Nat.le_of_ble_eq_true rfl) ?_
  intro p e s m below meth co ls hx hb hr hlk hml hown hts hE hH hl
  have hl : lv_has ls 2 [(0, .ref w), (1, .int (nI k))] := hl
  obtain ⟨hO, hB, hHd, hA⟩ := id h
  refine lv_aload_n hx hb dX3_daysOf_0 rfl (lv_at hl 0 rfl) ?_
  refine gf hx hb hts hown hE lkX3_37 hO rfl dX3_daysOf_1 ?_
  refine lv_if_ne (tgt := 24) hx hb dX3_daysOf_4 (by decide) (fun c => ?_) (fun c => ?_)
  · refine lv_aload_n hx hb dX3_daysOf_24 rfl (lv_at hl 0 rfl) ?_
    refine gf hx hb hts hown hE lkX3_28 hO rfl dX3_daysOf_25 ?_
    refine lv_i2l hx hb dX3_daysOf_28 rfl ?_
    exact pL hx hb hr hlk hH (by simp only [dys, if_neg c]) dX3_daysOf_29
  · refine lv_aload_n hx hb dX3_daysOf_7 rfl (lv_at hl 0 rfl) ?_
    refine lv_iload_n hx hb dX3_daysOf_8 rfl (lv_at hl 1 rfl) ?_
    refine lv_iconst (v := 1) hx hb dX3_daysOf_9 (by decide) ?_
    refine lv_iadd hx hb dX3_daysOf_10 ?_
    rw [show nI k + 1 = nI (k + 1) from nI_1 k]
    refine pV hx hb hml hts hown hE kwX3_63 (c_start E w T db dh bd bf bs hs (k + 1) H (by omega) h) hO rfl (Nat.le_of_ble_eq_true rfl) rfl hl.1 rfl (Nat.le_of_ble_eq_true rfl) (Nat.le_refl _) (Nat.le_refl _) dX3_daysOf_11 ?_
    refine lv_aload_n hx hb dX3_daysOf_14 rfl (lv_at hl 0 rfl) ?_
    refine lv_iload_n hx hb dX3_daysOf_15 rfl (lv_at hl 1 rfl) ?_
    refine pV hx hb hml hts hown hE kwX3_63 (c_start E w T db dh bd bf bs hs k H (by omega) h) hO rfl (Nat.le_of_ble_eq_true rfl) rfl hl.1 rfl (Nat.le_of_ble_eq_true rfl) (Nat.le_refl _) (Nat.le_refl _) dX3_daysOf_16 ?_
    refine lv_isub hx hb dX3_daysOf_19 ?_
    refine lv_i2l hx hb dX3_daysOf_20 rfl ?_
    refine lv_goto (tgt := 29) hx hb dX3_daysOf_21 (by decide) ?_
    exact pL hx hb hr hlk hH (by simp only [dys, if_pos c]) dX3_daysOf_29

set_option maxRecDepth 100000 in
set_option maxHeartbeats 4000000 in
/-- Swap.rateOf -/
theorem c_rate (E : ET) (w : Nat) (T : Nat → Int32) (db dh bd : Nat) (bf : Nat → Int32) (bs hs : Dy) (k dx : Nat) (fx : Dy) (H : Heap) (hk : k < 11) (hx9 : DR E dx fx H) (h : SRx E w T db dh bd bf bs hs H) : PCon E yX3_rateOf cX3_rateOf 3 (some FieldType.long) 5 [.ref w, .int (nI k), .ref dx] H (some (.long (rte fx bf k))) := by
  refine PCon.of (C := RX3) rfl (by decide +kernel) (Nat.le_of_ble_eq_true rfl) ?_
  intro p e s m below meth co ls hx hb hr hlk hml hown hts hE hH hl
  have hl : lv_has ls 3 [(0, .ref w), (1, .int (nI k)), (2, .ref dx)] := hl
  obtain ⟨hO, hB, hHd, hA⟩ := id h
  obtain ⟨a3, ad3, hdx⟩ := hx9
  refine lv_aload_n hx hb dX3_rateOf_0 rfl (lv_at hl 2 rfl) ?_
  refine lv_aload_n hx hb dX3_rateOf_1 rfl (lv_at hl 0 rfl) ?_
  refine lv_iload_n hx hb dX3_rateOf_2 rfl (lv_at hl 1 rfl) ?_
  refine pV hx hb hml hts hown hE kwX3_63 (c_start E w T db dh bd bf bs hs k H hk h) hO rfl (Nat.le_of_ble_eq_true rfl) rfl hl.1 rfl (Nat.le_of_ble_eq_true rfl) (Nat.le_refl _) (Nat.le_refl _) dX3_rateOf_3 ?_
  refine lv_iconst (v := 0) hx hb dX3_rateOf_6 (by decide) ?_
  refine pV hx hb hml hts hown hE kwX3_69 (c_last E dx a3 ad3 fx (bf k) 0 H hdx) hdx.1 rfl (Nat.le_of_ble_eq_true rfl) rfl hl.1 rfl (Nat.le_of_ble_eq_true rfl) (Nat.le_refl _) (Nat.le_refl _) dX3_rateOf_7 ?_
  refine lv_i2l hx hb dX3_rateOf_10 rfl ?_
  exact pL hx hb hr hlk hH rfl dX3_rateOf_11

set_option maxRecDepth 100000 in
set_option maxHeartbeats 4000000 in
/-- Swap.floatingOf -/
theorem c_float (E : ET) (w : Nat) (T : Nat → Int32) (db dh bd : Nat) (bf : Nat → Int32) (bs hs : Dy) (k np dx : Nat) (fx : Dy) (H : Heap) (hn : T 6 = nI np) (hnp : np ≤ 10) (hk : k < np) (h9 : T 9 = 0 ∨ T 9 = 1 ∨ T 9 = 2) (hx9 : DR E dx fx H) (h : SRx E w T db dh bd bf bs hs H) : PCon E yX3_floatingOf cX3_floatingOf 12 (some FieldType.long) 6 [.ref w, .int (nI k), .ref dx] H (some (.long (fltS T bf fx k))) := by
  refine PCon.of (C := RX3) rfl (by decide +kernel) (Nat.le_of_ble_eq_true rfl) ?_
  intro p e s m below meth co ls hx hb hr hlk hml hown hts hE hH hl
  have hl : lv_has ls 12 [(0, .ref w), (1, .int (nI k)), (2, .ref dx)] := hl
  obtain ⟨hO, hB, hHd, hA⟩ := id h
  refine lv_aload_n hx hb dX3_floatingOf_0 rfl (lv_at hl 0 rfl) ?_
  refine gf hx hb hts hown hE lkX3_40 hO rfl dX3_floatingOf_1 ?_
  refine lv_if_ne (tgt := 26) hx hb dX3_floatingOf_4 (by decide) (fun c => ?_) (fun c => ?_)
  · rcases (show T 9 = 1 ∨ ¬ T 9 = 1 by rcases h9 with q | q | q <;> rw [q] <;> decide) with c1 | c1
    · refine lv_aload_n hx hb dX3_floatingOf_26 rfl (lv_at hl 0 rfl) ?_
      refine gf hx hb hts hown hE lkX3_40 hO rfl dX3_floatingOf_27 ?_
      refine lv_iconst (v := 1) hx hb dX3_floatingOf_30 (by decide) ?_
      refine lv_icmp_ne (tgt := 41) hx hb dX3_floatingOf_31 (by decide) (fun c2 => ?_) (fun c2 => ?_)
      · exact absurd c1 c2
      refine lv_aload_n hx hb dX3_floatingOf_34 rfl (lv_at hl 0 rfl) ?_
      refine gf hx hb hts hown hE lkX3_34 hO rfl dX3_floatingOf_35 ?_
      refine lv_goto (tgt := 42) hx hb dX3_floatingOf_38 (by decide) ?_
      refine lv_istore_n (lv' := [(3, .int (T 7)), (0, .ref w), (1, .int (nI k)), (2, .ref dx)]) hx hb dX3_floatingOf_42 rfl hl (by decide) rfl (fun ls hl => ?_)
      refine lv_aload_n hx hb dX3_floatingOf_43 rfl (lv_at hl 1 rfl) ?_
      refine gf hx hb hts hown hE lkX3_34 hO rfl dX3_floatingOf_44 ?_
      refine lv_iload_n hx hb dX3_floatingOf_47 rfl (lv_at hl 0 rfl) ?_
      refine lv_isub hx hb dX3_floatingOf_48 ?_
      refine lv_istore (lv' := [(4, .int (T 7 - T 7)), (3, .int (T 7)), (0, .ref w), (1, .int (nI k)), (2, .ref dx)]) hx hb dX3_floatingOf_49 hl (by decide) rfl (fun ls hl => ?_)
      refine lv_lconst (v := 0) hx hb dX3_floatingOf_51 (by decide) ?_
      refine lv_lstore (lv' := [(5, .long 0), (4, .int (T 7 - T 7)), (3, .int (T 7)), (0, .ref w), (1, .int (nI k)), (2, .ref dx)]) hx hb dX3_floatingOf_52 hl (by decide) rfl (fun ls hl => ?_)
      refine lv_lconst (v := 0) hx hb dX3_floatingOf_54 (by decide) ?_
      refine lv_lstore (lv' := [(7, .long 0), (5, .long 0), (4, .int (T 7 - T 7)), (3, .int (T 7)), (0, .ref w), (1, .int (nI k)), (2, .ref dx)]) hx hb dX3_floatingOf_55 hl (by decide) rfl (fun ls hl => ?_)
      refine lv_iconst (v := 0) hx hb dX3_floatingOf_57 (by decide) ?_
      refine lv_istore (lv' := [(9, .int 0), (7, .long 0), (5, .long 0), (4, .int (T 7 - T 7)), (3, .int (T 7)), (0, .ref w), (1, .int (nI k)), (2, .ref dx)]) hx hb dX3_floatingOf_58 hl (by decide) rfl (fun ls hl => ?_)
      have loop : ∀ (n i : Nat) (g cc : Int64) (ls : Array Slot), i + n = k + 1 → cc = (flS T bf fx i).1 → (∀ j, i = j + 1 → g = flo ((3600000 + (flS T bf fx j).1) * (if T 9 = 1 then rte fx bf j + (T 7).toInt64 else rte fx bf j) * dys T bf j)) → lv_has ls 12 [(9, .int (nI i)), (7, .long g), (5, .long cc), (0, .ref w), (1, .int (nI k)), (2, .ref dx), (3, .int (T 7)), (4, .int (T 7 - T 7))] → W p (eL E) e (rmk 6 0 0) s m ([.ref w, .int (nI k), .ref dx]).toArray below meth co H [] 0 0 (MQ below (PQ (some (.long (fltS T bf fx k)))) ([.ref w, .int (nI k), .ref dx]).toArray s 0 0 (fun _ => False)) (F0 m 60 ls []) := by
        intro n
        induction n with
        | zero =>
          intro i g cc ls hi hc hg hl
          have hi2 : i = k + 1 := by omega
          subst hi2
          have hg := hg k rfl
          refine lv_iload hx hb dX3_floatingOf_60 (lv_at hl 0 rfl) ?_
          refine lv_iload_n hx hb dX3_floatingOf_62 rfl (lv_at hl 4 rfl) ?_
          refine lv_icmp_gt (tgt := 124) hx hb dX3_floatingOf_63 (by decide) (fun c3 => ?_) (fun c3 => ?_)
          rotate_left
          · exact absurd (show nI k < nI (k + 1) from nI_lt (by omega) (by omega)) c3
          refine lv_lload hx hb dX3_floatingOf_124 (lv_at hl 1 rfl) ?_
          refine lv_iload hx hb dX3_floatingOf_126 (lv_at hl 7 rfl) ?_
          refine lv_i2l hx hb dX3_floatingOf_128 rfl ?_
          refine lv_aload_n hx hb dX3_floatingOf_129 rfl (lv_at hl 3 rfl) ?_
          refine lv_iload_n hx hb dX3_floatingOf_130 rfl (lv_at hl 4 rfl) ?_
          refine pV hx hb hml hts hown hE kwX3_77 (c_days E w T db dh bd bf bs hs k H (by omega) h) hO rfl (Nat.le_of_ble_eq_true rfl) rfl hl.1 rfl (Nat.le_of_ble_eq_true rfl) (Nat.le_refl _) (Nat.le_refl _) dX3_floatingOf_131 ?_
          refine lv_lmul hx hb dX3_floatingOf_134 ?_
          refine lv_ladd hx hb dX3_floatingOf_135 ?_
          exact pL hx hb hr hlk hH (by rw [hg]; simp [fltS, flS, c1, Int32.sub_self]) dX3_floatingOf_136
        | succ n ih =>
          intro i g cc ls hi hc hg hl
          refine lv_iload hx hb dX3_floatingOf_60 (lv_at hl 0 rfl) ?_
          refine lv_iload_n hx hb dX3_floatingOf_62 rfl (lv_at hl 4 rfl) ?_
          refine lv_icmp_gt (tgt := 124) hx hb dX3_floatingOf_63 (by decide) (fun c3 => ?_) (fun c3 => ?_)
          · exact absurd c3 (nI_nlt (by omega) (by omega))
          refine lv_iload hx hb dX3_floatingOf_66 (lv_at hl 0 rfl) ?_
          refine lv_aload_n hx hb dX3_floatingOf_68 rfl (lv_at hl 3 rfl) ?_
          refine gf hx hb hts hown hE lkX3_31 hO rfl dX3_floatingOf_69 ?_
          refine lv_icmp_ge (tgt := 124) hx hb dX3_floatingOf_72 (by decide) (fun c4 => ?_) (fun c4 => ?_)
          · exact absurd c4 (by rw [hn]; exact nI_ge (by omega) (by omega))
          refine lv_aload_n hx hb dX3_floatingOf_75 rfl (lv_at hl 3 rfl) ?_
          refine lv_iload hx hb dX3_floatingOf_76 (lv_at hl 0 rfl) ?_
          refine lv_aload_n hx hb dX3_floatingOf_78 rfl (lv_at hl 5 rfl) ?_
          refine pV hx hb hml hts hown hE kwX3_73 (c_rate E w T db dh bd bf bs hs i dx fx H (by omega) hx9 h) hO rfl (Nat.le_of_ble_eq_true rfl) rfl hl.1 rfl (Nat.le_of_ble_eq_true rfl) (Nat.le_refl _) (Nat.le_refl _) dX3_floatingOf_79 ?_
          refine lv_iload_n hx hb dX3_floatingOf_82 rfl (lv_at hl 6 rfl) ?_
          refine lv_i2l hx hb dX3_floatingOf_83 rfl ?_
          refine lv_ladd hx hb dX3_floatingOf_84 ?_
          refine lv_lstore (lv' := [(10, .long (rte fx bf i + (T 7).toInt64)), (9, .int (nI i)), (7, .long g), (5, .long cc), (0, .ref w), (1, .int (nI k)), (2, .ref dx), (3, .int (T 7)), (4, .int (T 7 - T 7))]) hx hb dX3_floatingOf_85 hl (by decide) rfl (fun ls hl => ?_)
          refine lv_ldc2 (v := 3600000) hx hb hown (hts _ qw3_91) dX3_floatingOf_87 ?_
          refine lv_lload hx hb dX3_floatingOf_90 (lv_at hl 3 rfl) ?_
          refine lv_ladd hx hb dX3_floatingOf_92 ?_
          refine lv_lload hx hb dX3_floatingOf_93 (lv_at hl 0 rfl) ?_
          refine lv_lmul hx hb dX3_floatingOf_95 ?_
          refine lv_aload_n hx hb dX3_floatingOf_96 rfl (lv_at hl 4 rfl) ?_
          refine lv_iload hx hb dX3_floatingOf_97 (lv_at hl 1 rfl) ?_
          refine pV hx hb hml hts hown hE kwX3_77 (c_days E w T db dh bd bf bs hs i H (by omega) h) hO rfl (Nat.le_of_ble_eq_true rfl) rfl hl.1 rfl (Nat.le_of_ble_eq_true rfl) (Nat.le_refl _) (Nat.le_refl _) dX3_floatingOf_99 ?_
          refine lv_lmul hx hb dX3_floatingOf_102 ?_
          refine lv_ldc2 (v := 3600000) hx hb hown (hts _ qw3_91) dX3_floatingOf_103 ?_
          refine pS hx hb hml hts hown hE kwX3_83 (c_fdiv E (((3600000 + cc) * (rte fx bf i + (T 7).toInt64)) * dys T bf i) H) (Nat.le_of_ble_eq_true rfl) rfl hl.1 rfl (Nat.le_of_ble_eq_true rfl) (Nat.le_refl _) (Nat.le_refl _) dX3_floatingOf_106 ?_
          refine lv_lstore (lv' := [(7, .long (flo (((3600000 + cc) * (rte fx bf i + (T 7).toInt64)) * dys T bf i))), (10, .long (rte fx bf i + (T 7).toInt64)), (9, .int (nI i)), (5, .long cc), (0, .ref w), (1, .int (nI k)), (2, .ref dx), (3, .int (T 7)), (4, .int (T 7 - T 7))]) hx hb dX3_floatingOf_109 hl (by decide) rfl (fun ls hl => ?_)
          refine lv_lload hx hb dX3_floatingOf_111 (lv_at hl 3 rfl) ?_
          refine lv_lload hx hb dX3_floatingOf_113 (lv_at hl 0 rfl) ?_
          refine lv_ladd hx hb dX3_floatingOf_115 ?_
          refine lv_lstore (lv' := [(5, .long (cc + (flo (((3600000 + cc) * (rte fx bf i + (T 7).toInt64)) * dys T bf i)))), (7, .long (flo (((3600000 + cc) * (rte fx bf i + (T 7).toInt64)) * dys T bf i))), (10, .long (rte fx bf i + (T 7).toInt64)), (9, .int (nI i)), (0, .ref w), (1, .int (nI k)), (2, .ref dx), (3, .int (T 7)), (4, .int (T 7 - T 7))]) hx hb dX3_floatingOf_116 hl (by decide) rfl (fun ls hl => ?_)
          refine lv_iinc (v := nI (i + 1)) (lv' := [(9, .int (nI (i + 1))), (5, .long (cc + (flo (((3600000 + cc) * (rte fx bf i + (T 7).toInt64)) * dys T bf i)))), (7, .long (flo (((3600000 + cc) * (rte fx bf i + (T 7).toInt64)) * dys T bf i))), (10, .long (rte fx bf i + (T 7).toInt64)), (0, .ref w), (1, .int (nI k)), (2, .ref dx), (3, .int (T 7)), (4, .int (T 7 - T 7))]) hx hb dX3_floatingOf_118 hl (k := 3) rfl (nI_1 i) (by decide) rfl (fun ls hl => ?_)
          refine lv_goto (tgt := 60) hx hb dX3_floatingOf_121 (by decide) ?_
          have eg : (flo (((3600000 + cc) * (rte fx bf i + (T 7).toInt64)) * dys T bf i)) = flo ((3600000 + (flS T bf fx i).1) * (if T 9 = 1 then rte fx bf i + (T 7).toInt64 else rte fx bf i) * dys T bf i) := by rw [hc]; simp [c1]
          exact ih (i + 1) (flo (((3600000 + cc) * (rte fx bf i + (T 7).toInt64)) * dys T bf i)) (cc + (flo (((3600000 + cc) * (rte fx bf i + (T 7).toInt64)) * dys T bf i))) ls (by omega) (by rw [eg, hc]; rfl) (fun j hj => by cases hj; exact eg) (lv_sub hl [0, 2, 1, 4, 5, 6, 7, 8] rfl)
      exact loop (k + 1) 0 0 0 ls (by omega) rfl (fun j hj => by omega) (lv_sub hl [0, 1, 2, 5, 6, 7, 4, 3] rfl)
    · refine lv_aload_n hx hb dX3_floatingOf_26 rfl (lv_at hl 0 rfl) ?_
      refine gf hx hb hts hown hE lkX3_40 hO rfl dX3_floatingOf_27 ?_
      refine lv_iconst (v := 1) hx hb dX3_floatingOf_30 (by decide) ?_
      refine lv_icmp_ne (tgt := 41) hx hb dX3_floatingOf_31 (by decide) (fun c2 => ?_) (fun c2 => ?_)
      rotate_left
      · exact absurd c2 c1
      refine lv_iconst (v := 0) hx hb dX3_floatingOf_41 (by decide) ?_
      refine lv_istore_n (lv' := [(3, .int 0), (0, .ref w), (1, .int (nI k)), (2, .ref dx)]) hx hb dX3_floatingOf_42 rfl hl (by decide) rfl (fun ls hl => ?_)
      refine lv_aload_n hx hb dX3_floatingOf_43 rfl (lv_at hl 1 rfl) ?_
      refine gf hx hb hts hown hE lkX3_34 hO rfl dX3_floatingOf_44 ?_
      refine lv_iload_n hx hb dX3_floatingOf_47 rfl (lv_at hl 0 rfl) ?_
      refine lv_isub hx hb dX3_floatingOf_48 ?_
      refine lv_istore (lv' := [(4, .int (T 7 - 0)), (3, .int 0), (0, .ref w), (1, .int (nI k)), (2, .ref dx)]) hx hb dX3_floatingOf_49 hl (by decide) rfl (fun ls hl => ?_)
      refine lv_lconst (v := 0) hx hb dX3_floatingOf_51 (by decide) ?_
      refine lv_lstore (lv' := [(5, .long 0), (4, .int (T 7 - 0)), (3, .int 0), (0, .ref w), (1, .int (nI k)), (2, .ref dx)]) hx hb dX3_floatingOf_52 hl (by decide) rfl (fun ls hl => ?_)
      refine lv_lconst (v := 0) hx hb dX3_floatingOf_54 (by decide) ?_
      refine lv_lstore (lv' := [(7, .long 0), (5, .long 0), (4, .int (T 7 - 0)), (3, .int 0), (0, .ref w), (1, .int (nI k)), (2, .ref dx)]) hx hb dX3_floatingOf_55 hl (by decide) rfl (fun ls hl => ?_)
      refine lv_iconst (v := 0) hx hb dX3_floatingOf_57 (by decide) ?_
      refine lv_istore (lv' := [(9, .int 0), (7, .long 0), (5, .long 0), (4, .int (T 7 - 0)), (3, .int 0), (0, .ref w), (1, .int (nI k)), (2, .ref dx)]) hx hb dX3_floatingOf_58 hl (by decide) rfl (fun ls hl => ?_)
      have loop : ∀ (n i : Nat) (g cc : Int64) (ls : Array Slot), i + n = k + 1 → cc = (flS T bf fx i).1 → (∀ j, i = j + 1 → g = flo ((3600000 + (flS T bf fx j).1) * (if T 9 = 1 then rte fx bf j + (T 7).toInt64 else rte fx bf j) * dys T bf j)) → lv_has ls 12 [(9, .int (nI i)), (7, .long g), (5, .long cc), (0, .ref w), (1, .int (nI k)), (2, .ref dx), (3, .int 0), (4, .int (T 7 - 0))] → W p (eL E) e (rmk 6 0 0) s m ([.ref w, .int (nI k), .ref dx]).toArray below meth co H [] 0 0 (MQ below (PQ (some (.long (fltS T bf fx k)))) ([.ref w, .int (nI k), .ref dx]).toArray s 0 0 (fun _ => False)) (F0 m 60 ls []) := by
        intro n
        induction n with
        | zero =>
          intro i g cc ls hi hc hg hl
          have hi2 : i = k + 1 := by omega
          subst hi2
          have hg := hg k rfl
          refine lv_iload hx hb dX3_floatingOf_60 (lv_at hl 0 rfl) ?_
          refine lv_iload_n hx hb dX3_floatingOf_62 rfl (lv_at hl 4 rfl) ?_
          refine lv_icmp_gt (tgt := 124) hx hb dX3_floatingOf_63 (by decide) (fun c3 => ?_) (fun c3 => ?_)
          rotate_left
          · exact absurd (show nI k < nI (k + 1) from nI_lt (by omega) (by omega)) c3
          refine lv_lload hx hb dX3_floatingOf_124 (lv_at hl 1 rfl) ?_
          refine lv_iload hx hb dX3_floatingOf_126 (lv_at hl 7 rfl) ?_
          refine lv_i2l hx hb dX3_floatingOf_128 rfl ?_
          refine lv_aload_n hx hb dX3_floatingOf_129 rfl (lv_at hl 3 rfl) ?_
          refine lv_iload_n hx hb dX3_floatingOf_130 rfl (lv_at hl 4 rfl) ?_
          refine pV hx hb hml hts hown hE kwX3_77 (c_days E w T db dh bd bf bs hs k H (by omega) h) hO rfl (Nat.le_of_ble_eq_true rfl) rfl hl.1 rfl (Nat.le_of_ble_eq_true rfl) (Nat.le_refl _) (Nat.le_refl _) dX3_floatingOf_131 ?_
          refine lv_lmul hx hb dX3_floatingOf_134 ?_
          refine lv_ladd hx hb dX3_floatingOf_135 ?_
          exact pL hx hb hr hlk hH (by rw [hg]; simp [fltS, flS, c, c1]) dX3_floatingOf_136
        | succ n ih =>
          intro i g cc ls hi hc hg hl
          refine lv_iload hx hb dX3_floatingOf_60 (lv_at hl 0 rfl) ?_
          refine lv_iload_n hx hb dX3_floatingOf_62 rfl (lv_at hl 4 rfl) ?_
          refine lv_icmp_gt (tgt := 124) hx hb dX3_floatingOf_63 (by decide) (fun c3 => ?_) (fun c3 => ?_)
          · exact absurd c3 (nI_nlt (by omega) (by omega))
          refine lv_iload hx hb dX3_floatingOf_66 (lv_at hl 0 rfl) ?_
          refine lv_aload_n hx hb dX3_floatingOf_68 rfl (lv_at hl 3 rfl) ?_
          refine gf hx hb hts hown hE lkX3_31 hO rfl dX3_floatingOf_69 ?_
          refine lv_icmp_ge (tgt := 124) hx hb dX3_floatingOf_72 (by decide) (fun c4 => ?_) (fun c4 => ?_)
          · exact absurd c4 (by rw [hn]; exact nI_ge (by omega) (by omega))
          refine lv_aload_n hx hb dX3_floatingOf_75 rfl (lv_at hl 3 rfl) ?_
          refine lv_iload hx hb dX3_floatingOf_76 (lv_at hl 0 rfl) ?_
          refine lv_aload_n hx hb dX3_floatingOf_78 rfl (lv_at hl 5 rfl) ?_
          refine pV hx hb hml hts hown hE kwX3_73 (c_rate E w T db dh bd bf bs hs i dx fx H (by omega) hx9 h) hO rfl (Nat.le_of_ble_eq_true rfl) rfl hl.1 rfl (Nat.le_of_ble_eq_true rfl) (Nat.le_refl _) (Nat.le_refl _) dX3_floatingOf_79 ?_
          refine lv_iload_n hx hb dX3_floatingOf_82 rfl (lv_at hl 6 rfl) ?_
          refine lv_i2l hx hb dX3_floatingOf_83 rfl ?_
          refine lv_ladd hx hb dX3_floatingOf_84 ?_
          refine lv_lstore (lv' := [(10, .long (rte fx bf i + (0 : Int32).toInt64)), (9, .int (nI i)), (7, .long g), (5, .long cc), (0, .ref w), (1, .int (nI k)), (2, .ref dx), (3, .int 0), (4, .int (T 7 - 0))]) hx hb dX3_floatingOf_85 hl (by decide) rfl (fun ls hl => ?_)
          refine lv_ldc2 (v := 3600000) hx hb hown (hts _ qw3_91) dX3_floatingOf_87 ?_
          refine lv_lload hx hb dX3_floatingOf_90 (lv_at hl 3 rfl) ?_
          refine lv_ladd hx hb dX3_floatingOf_92 ?_
          refine lv_lload hx hb dX3_floatingOf_93 (lv_at hl 0 rfl) ?_
          refine lv_lmul hx hb dX3_floatingOf_95 ?_
          refine lv_aload_n hx hb dX3_floatingOf_96 rfl (lv_at hl 4 rfl) ?_
          refine lv_iload hx hb dX3_floatingOf_97 (lv_at hl 1 rfl) ?_
          refine pV hx hb hml hts hown hE kwX3_77 (c_days E w T db dh bd bf bs hs i H (by omega) h) hO rfl (Nat.le_of_ble_eq_true rfl) rfl hl.1 rfl (Nat.le_of_ble_eq_true rfl) (Nat.le_refl _) (Nat.le_refl _) dX3_floatingOf_99 ?_
          refine lv_lmul hx hb dX3_floatingOf_102 ?_
          refine lv_ldc2 (v := 3600000) hx hb hown (hts _ qw3_91) dX3_floatingOf_103 ?_
          refine pS hx hb hml hts hown hE kwX3_83 (c_fdiv E (((3600000 + cc) * (rte fx bf i + (0 : Int32).toInt64)) * dys T bf i) H) (Nat.le_of_ble_eq_true rfl) rfl hl.1 rfl (Nat.le_of_ble_eq_true rfl) (Nat.le_refl _) (Nat.le_refl _) dX3_floatingOf_106 ?_
          refine lv_lstore (lv' := [(7, .long (flo (((3600000 + cc) * (rte fx bf i + (0 : Int32).toInt64)) * dys T bf i))), (10, .long (rte fx bf i + (0 : Int32).toInt64)), (9, .int (nI i)), (5, .long cc), (0, .ref w), (1, .int (nI k)), (2, .ref dx), (3, .int 0), (4, .int (T 7 - 0))]) hx hb dX3_floatingOf_109 hl (by decide) rfl (fun ls hl => ?_)
          refine lv_lload hx hb dX3_floatingOf_111 (lv_at hl 3 rfl) ?_
          refine lv_lload hx hb dX3_floatingOf_113 (lv_at hl 0 rfl) ?_
          refine lv_ladd hx hb dX3_floatingOf_115 ?_
          refine lv_lstore (lv' := [(5, .long (cc + (flo (((3600000 + cc) * (rte fx bf i + (0 : Int32).toInt64)) * dys T bf i)))), (7, .long (flo (((3600000 + cc) * (rte fx bf i + (0 : Int32).toInt64)) * dys T bf i))), (10, .long (rte fx bf i + (0 : Int32).toInt64)), (9, .int (nI i)), (0, .ref w), (1, .int (nI k)), (2, .ref dx), (3, .int 0), (4, .int (T 7 - 0))]) hx hb dX3_floatingOf_116 hl (by decide) rfl (fun ls hl => ?_)
          refine lv_iinc (v := nI (i + 1)) (lv' := [(9, .int (nI (i + 1))), (5, .long (cc + (flo (((3600000 + cc) * (rte fx bf i + (0 : Int32).toInt64)) * dys T bf i)))), (7, .long (flo (((3600000 + cc) * (rte fx bf i + (0 : Int32).toInt64)) * dys T bf i))), (10, .long (rte fx bf i + (0 : Int32).toInt64)), (0, .ref w), (1, .int (nI k)), (2, .ref dx), (3, .int 0), (4, .int (T 7 - 0))]) hx hb dX3_floatingOf_118 hl (k := 3) rfl (nI_1 i) (by decide) rfl (fun ls hl => ?_)
          refine lv_goto (tgt := 60) hx hb dX3_floatingOf_121 (by decide) ?_
          have eg : (flo (((3600000 + cc) * (rte fx bf i + (0 : Int32).toInt64)) * dys T bf i)) = flo ((3600000 + (flS T bf fx i).1) * (if T 9 = 1 then rte fx bf i + (T 7).toInt64 else rte fx bf i) * dys T bf i) := by rw [hc]; simp [c1]
          exact ih (i + 1) (flo (((3600000 + cc) * (rte fx bf i + (0 : Int32).toInt64)) * dys T bf i)) (cc + (flo (((3600000 + cc) * (rte fx bf i + (0 : Int32).toInt64)) * dys T bf i))) ls (by omega) (by rw [eg, hc]; rfl) (fun j hj => by cases hj; exact eg) (lv_sub hl [0, 2, 1, 4, 5, 6, 7, 8] rfl)
      exact loop (k + 1) 0 0 0 ls (by omega) rfl (fun j hj => by omega) (lv_sub hl [0, 1, 2, 5, 6, 7, 4, 3] rfl)
  · refine lv_aload_n hx hb dX3_floatingOf_7 rfl (lv_at hl 0 rfl) ?_
    refine lv_iload_n hx hb dX3_floatingOf_8 rfl (lv_at hl 1 rfl) ?_
    refine lv_aload_n hx hb dX3_floatingOf_9 rfl (lv_at hl 2 rfl) ?_
    refine pV hx hb hml hts hown hE kwX3_73 (c_rate E w T db dh bd bf bs hs k dx fx H (by omega) hx9 h) hO rfl (Nat.le_of_ble_eq_true rfl) rfl hl.1 rfl (Nat.le_of_ble_eq_true rfl) (Nat.le_refl _) (Nat.le_refl _) dX3_floatingOf_10 ?_
    refine lv_aload_n hx hb dX3_floatingOf_13 rfl (lv_at hl 0 rfl) ?_
    refine gf hx hb hts hown hE lkX3_34 hO rfl dX3_floatingOf_14 ?_
    refine lv_i2l hx hb dX3_floatingOf_17 rfl ?_
    refine lv_ladd hx hb dX3_floatingOf_18 ?_
    refine lv_aload_n hx hb dX3_floatingOf_19 rfl (lv_at hl 0 rfl) ?_
    refine lv_iload_n hx hb dX3_floatingOf_20 rfl (lv_at hl 1 rfl) ?_
    refine pV hx hb hml hts hown hE kwX3_77 (c_days E w T db dh bd bf bs hs k H (by omega) h) hO rfl (Nat.le_of_ble_eq_true rfl) rfl hl.1 rfl (Nat.le_of_ble_eq_true rfl) (Nat.le_refl _) (Nat.le_refl _) dX3_floatingOf_21 ?_
    refine lv_lmul hx hb dX3_floatingOf_24 ?_
    exact pL hx hb hr hlk hH (by simp [fltS, flS, c]) dX3_floatingOf_25

set_option maxRecDepth 100000 in
set_option maxHeartbeats 4000000 in
/-- Swap.flowOf -/
theorem c_flow (E : ET) (w : Nat) (T : Nat → Int32) (db dh bd : Nat) (bf : Nat → Int32) (bs hs : Dy) (k np dx : Nat) (fx : Dy) (H : Heap) (hn : T 6 = nI np) (hnp : np ≤ 10) (hk : k < np) (h9 : T 9 = 0 ∨ T 9 = 1 ∨ T 9 = 2) (hx9 : DR E dx fx H) (h : SRx E w T db dh bd bf bs hs H) : PCon E yX3_flowOf cX3_flowOf 5 (some FieldType.long) 7 [.ref w, .int (nI k), .ref dx] H (some (.long (flwS T bs bf fx k))) := by
  refine PCon.of (C := RX3) rfl (by decide +kernel) (Nat.le_of_ble_eq_true rfl) ?_
  intro p e s m below meth co ls hx hb hr hlk hml hown hts hE hH hl
  have hl : lv_has ls 5 [(0, .ref w), (1, .int (nI k)), (2, .ref dx)] := hl
  obtain ⟨hO, hB, hHd, hA⟩ := id h
  refine lv_aload_n hx hb dX3_flowOf_0 rfl (lv_at hl 0 rfl) ?_
  refine lv_iload_n hx hb dX3_flowOf_1 rfl (lv_at hl 1 rfl) ?_
  refine lv_aload_n hx hb dX3_flowOf_2 rfl (lv_at hl 2 rfl) ?_
  refine pV hx hb hml hts hown hE kwX3_89 (c_float E w T db dh bd bf bs hs k np dx fx H hn hnp hk h9 hx9 h) hO rfl (Nat.le_of_ble_eq_true rfl) rfl hl.1 rfl (Nat.le_of_ble_eq_true rfl) (Nat.le_refl _) (Nat.le_refl _) dX3_flowOf_3 ?_
  refine lv_aload_n hx hb dX3_flowOf_6 rfl (lv_at hl 0 rfl) ?_
  refine gf hx hb hts hown hE lkX3_22 hO rfl dX3_flowOf_7 ?_
  refine lv_i2l hx hb dX3_flowOf_10 rfl ?_
  refine lv_aload_n hx hb dX3_flowOf_11 rfl (lv_at hl 0 rfl) ?_
  refine lv_iload_n hx hb dX3_flowOf_12 rfl (lv_at hl 1 rfl) ?_
  refine pV hx hb hml hts hown hE kwX3_77 (c_days E w T db dh bd bf bs hs k H (by omega) h) hO rfl (Nat.le_of_ble_eq_true rfl) rfl hl.1 rfl (Nat.le_of_ble_eq_true rfl) (Nat.le_refl _) (Nat.le_refl _) dX3_flowOf_13 ?_
  refine lv_lmul hx hb dX3_flowOf_16 ?_
  refine lv_lsub hx hb dX3_flowOf_17 ?_
  refine lv_lstore_n (lv' := [(3, .long (fltS T bf fx k - ((T 3).toInt64 * dys T bf k))), (0, .ref w), (1, .int (nI k)), (2, .ref dx)]) hx hb dX3_flowOf_18 rfl hl (by decide) rfl (fun ls hl => ?_)
  refine lv_aload_n hx hb dX3_flowOf_19 rfl (lv_at hl 1 rfl) ?_
  refine lv_iload_n hx hb dX3_flowOf_20 rfl (lv_at hl 2 rfl) ?_
  refine pV hx hb hml hts hown hE kwX3_92 (c_lots E w T db dh bd bf bs hs k H (by omega) h) hO rfl (Nat.le_of_ble_eq_true rfl) rfl hl.1 rfl (Nat.le_of_ble_eq_true rfl) (Nat.le_refl _) (Nat.le_refl _) dX3_flowOf_21 ?_
  refine lv_i2l hx hb dX3_flowOf_24 rfl ?_
  refine lv_aload_n hx hb dX3_flowOf_25 rfl (lv_at hl 1 rfl) ?_
  refine gf hx hb hts hown hE lkX3_18 hO rfl dX3_flowOf_26 ?_
  refine lv_if_eq (tgt := 36) hx hb dX3_flowOf_29 (by decide) (fun c => ?_) (fun c => ?_)
  · refine lv_lload_n hx hb dX3_flowOf_36 rfl (lv_at hl 0 rfl) ?_
    refine lv_lneg hx hb dX3_flowOf_37 ?_
    refine lv_lmul hx hb dX3_flowOf_38 ?_
    exact pL hx hb hr hlk hH (by simp [flwS, gnS, c]) dX3_flowOf_39
  · refine lv_lload_n hx hb dX3_flowOf_32 rfl (lv_at hl 0 rfl) ?_
    refine lv_goto (tgt := 38) hx hb dX3_flowOf_33 (by decide) ?_
    refine lv_lmul hx hb dX3_flowOf_38 ?_
    exact pL hx hb hr hlk hH (by simp [flwS, gnS, c]) dX3_flowOf_39

set_option maxRecDepth 100000 in
set_option maxHeartbeats 4000000 in
/-- Swap.cashOf -/
theorem c_cashOf (E : ET) (w : Nat) (T : Nat → Int32) (db dh bd : Nat) (bf : Nat → Int32) (bs hs : Dy) (np dx : Nat) (pa d1 d2 : Int32) (fx : Dy) (H : Heap) (hn : T 6 = nI np) (hnp : np ≤ 10) (h9 : T 9 = 0 ∨ T 9 = 1 ∨ T 9 = 2) (hx9 : DR E dx fx H) (h : SRx E w T db dh bd bf bs hs H) : PCon E yX3_cashOf cX3_cashOf 9 (some FieldType.long) 8 [.ref w, .int pa, .int d1, .int d2, .ref dx] H (some (.long (cshS T bs hs bf fx pa d1 d2 np))) := by
  refine PCon.of (C := RX3) rfl (by decide +kernel) (Nat.le_of_ble_eq_true rfl) ?_
  intro p e s m below meth co ls hx hb hr hlk hml hown hts hE hH hl
  have hl : lv_has ls 9 [(0, .ref w), (1, .int pa), (2, .int d1), (3, .int d2), (4, .ref dx)] := hl
  obtain ⟨hO, hB, hHd, hA⟩ := id h
  refine lv_lconst (v := 0) hx hb dX3_cashOf_0 (by decide) ?_
  refine lv_lstore (lv' := [(5, .long 0), (0, .ref w), (1, .int pa), (2, .int d1), (3, .int d2), (4, .ref dx)]) hx hb dX3_cashOf_1 hl (by decide) rfl (fun ls hl => ?_)
  refine lv_iconst (v := 0) hx hb dX3_cashOf_3 (by decide) ?_
  refine lv_istore (lv' := [(7, .int 0), (5, .long 0), (0, .ref w), (1, .int pa), (2, .int d1), (3, .int d2), (4, .ref dx)]) hx hb dX3_cashOf_4 hl (by decide) rfl (fun ls hl => ?_)
  have loop : ∀ (n i : Nat) (ls : Array Slot), i + n = np → lv_has ls 9 [(7, .int (nI i)), (5, .long (cshS T bs hs bf fx pa d1 d2 i)), (0, .ref w), (1, .int pa), (2, .int d1), (3, .int d2), (4, .ref dx)] → W p (eL E) e (rmk 8 0 0) s m ([.ref w, .int pa, .int d1, .int d2, .ref dx]).toArray below meth co H [] 0 0 (MQ below (PQ (some (.long (cshS T bs hs bf fx pa d1 d2 np)))) ([.ref w, .int pa, .int d1, .int d2, .ref dx]).toArray s 0 0 (fun _ => False)) (F0 m 6 ls []) := by
    intro n
    induction n with
    | zero =>
      intro i ls hi hl
      have hi2 : i = np := by omega
      subst hi2
      refine lv_iload hx hb dX3_cashOf_6 (lv_at hl 0 rfl) ?_
      refine lv_aload_n hx hb dX3_cashOf_8 rfl (lv_at hl 2 rfl) ?_
      refine gf hx hb hts hown hE lkX3_31 hO rfl dX3_cashOf_9 ?_
      refine lv_icmp_ge (tgt := 64) hx hb dX3_cashOf_12 (by decide) (fun c => ?_) (fun c => ?_)
      rotate_left
      · exact absurd (by rw [hn]; exact nI_le (Nat.le_refl _) (by omega)) c
      refine lv_lload hx hb dX3_cashOf_64 (lv_at hl 1 rfl) ?_
      exact pL hx hb hr hlk hH rfl dX3_cashOf_66
    | succ n ih =>
      intro i ls hi hl
      refine lv_iload hx hb dX3_cashOf_6 (lv_at hl 0 rfl) ?_
      refine lv_aload_n hx hb dX3_cashOf_8 rfl (lv_at hl 2 rfl) ?_
      refine gf hx hb hts hown hE lkX3_31 hO rfl dX3_cashOf_9 ?_
      refine lv_icmp_ge (tgt := 64) hx hb dX3_cashOf_12 (by decide) (fun c => ?_) (fun c => ?_)
      · exact absurd c (by rw [hn]; exact nI_ge (by omega) (by omega))
      refine lv_aload_n hx hb dX3_cashOf_15 rfl (lv_at hl 2 rfl) ?_
      refine lv_iload hx hb dX3_cashOf_16 (lv_at hl 0 rfl) ?_
      refine pV hx hb hml hts hown hE kwX3_95 (c_end E w T db dh bd bf bs hs i H (by omega) h) hO rfl (Nat.le_of_ble_eq_true rfl) rfl hl.1 rfl (Nat.le_of_ble_eq_true rfl) (Nat.le_refl _) (Nat.le_refl _) dX3_cashOf_18 ?_
      refine lv_istore (lv' := [(8, .int (bf (i + 1))), (7, .int (nI i)), (5, .long (cshS T bs hs bf fx pa d1 d2 i)), (0, .ref w), (1, .int pa), (2, .int d1), (3, .int d2), (4, .ref dx)]) hx hb dX3_cashOf_21 hl (by decide) rfl (fun ls hl => ?_)
      refine lv_iload hx hb dX3_cashOf_23 (lv_at hl 0 rfl) ?_
      refine lv_iload_n hx hb dX3_cashOf_25 rfl (lv_at hl 5 rfl) ?_
      refine lv_icmp_lt (tgt := 58) hx hb dX3_cashOf_26 (by decide) (fun c1 => ?_) (fun c1 => ?_)
      · refine lv_iinc (v := nI (i + 1)) (lv' := [(7, .int (nI (i + 1))), (8, .int (bf (i + 1))), (5, .long (cshS T bs hs bf fx pa d1 d2 i)), (0, .ref w), (1, .int pa), (2, .int d1), (3, .int d2), (4, .ref dx)]) hx hb dX3_cashOf_58 hl (k := 1) rfl (nI_1 i) (by decide) rfl (fun ls hl => ?_)
        refine lv_goto (tgt := 6) hx hb dX3_cashOf_61 (by decide) ?_
        exact ih (i + 1) ls (by omega) (by
          have e : cshS T bs hs bf fx pa d1 d2 (i + 1) = cshS T bs hs bf fx pa d1 d2 i := by simp only [cshS]; rw [if_neg (fun q => absurd q.1 (Int32.not_le.mpr c1))]
          rw [e]
          exact (lv_sub hl [0, 2, 3, 4, 5, 6, 7] rfl))
      · refine lv_iload hx hb dX3_cashOf_29 (lv_at hl 0 rfl) ?_
        refine lv_iload_n hx hb dX3_cashOf_31 rfl (lv_at hl 6 rfl) ?_
        refine lv_icmp_gt (tgt := 58) hx hb dX3_cashOf_32 (by decide) (fun c2 => ?_) (fun c2 => ?_)
        · refine lv_iinc (v := nI (i + 1)) (lv' := [(7, .int (nI (i + 1))), (8, .int (bf (i + 1))), (5, .long (cshS T bs hs bf fx pa d1 d2 i)), (0, .ref w), (1, .int pa), (2, .int d1), (3, .int d2), (4, .ref dx)]) hx hb dX3_cashOf_58 hl (k := 1) rfl (nI_1 i) (by decide) rfl (fun ls hl => ?_)
          refine lv_goto (tgt := 6) hx hb dX3_cashOf_61 (by decide) ?_
          exact ih (i + 1) ls (by omega) (by
            have e : cshS T bs hs bf fx pa d1 d2 (i + 1) = cshS T bs hs bf fx pa d1 d2 i := by simp only [cshS]; rw [if_neg (fun q => absurd q.2.1 (Int32.not_le.mpr c2))]
            rw [e]
            exact (lv_sub hl [0, 2, 3, 4, 5, 6, 7] rfl))
        · refine lv_aload_n hx hb dX3_cashOf_35 rfl (lv_at hl 3 rfl) ?_
          refine lv_iload hx hb dX3_cashOf_36 (lv_at hl 0 rfl) ?_
          refine pV hx hb hml hts hown hE kwX3_98 (c_hold E w T db dh bd bf bs hs (bf (i + 1)) H h) hO rfl (Nat.le_of_ble_eq_true rfl) rfl hl.1 rfl (Nat.le_of_ble_eq_true rfl) (Nat.le_refl _) (Nat.le_refl _) dX3_cashOf_38 ?_
          refine lv_iload_n hx hb dX3_cashOf_41 rfl (lv_at hl 4 rfl) ?_
          refine lv_icmp_ne (tgt := 58) hx hb dX3_cashOf_42 (by decide) (fun c3 => ?_) (fun c3 => ?_)
          · refine lv_iinc (v := nI (i + 1)) (lv' := [(7, .int (nI (i + 1))), (8, .int (bf (i + 1))), (5, .long (cshS T bs hs bf fx pa d1 d2 i)), (0, .ref w), (1, .int pa), (2, .int d1), (3, .int d2), (4, .ref dx)]) hx hb dX3_cashOf_58 hl (k := 1) rfl (nI_1 i) (by decide) rfl (fun ls hl => ?_)
            refine lv_goto (tgt := 6) hx hb dX3_cashOf_61 (by decide) ?_
            exact ih (i + 1) ls (by omega) (by
              have e : cshS T bs hs bf fx pa d1 d2 (i + 1) = cshS T bs hs bf fx pa d1 d2 i := by simp only [cshS]; rw [if_neg (fun q => c3 q.2.2)]
              rw [e]
              exact (lv_sub hl [0, 2, 3, 4, 5, 6, 7] rfl))
          · refine lv_lload hx hb dX3_cashOf_45 (lv_at hl 2 rfl) ?_
            refine lv_aload_n hx hb dX3_cashOf_47 rfl (lv_at hl 3 rfl) ?_
            refine lv_iload hx hb dX3_cashOf_48 (lv_at hl 1 rfl) ?_
            refine lv_aload hx hb dX3_cashOf_50 (lv_at hl 7 rfl) ?_
            refine pV hx hb hml hts hown hE kwX3_101 (c_flow E w T db dh bd bf bs hs i np dx fx H hn hnp (by omega) h9 hx9 h) hO rfl (Nat.le_of_ble_eq_true rfl) rfl hl.1 rfl (Nat.le_of_ble_eq_true rfl) (Nat.le_refl _) (Nat.le_refl _) dX3_cashOf_52 ?_
            refine lv_ladd hx hb dX3_cashOf_55 ?_
            refine lv_lstore (lv' := [(5, .long (cshS T bs hs bf fx pa d1 d2 i + flwS T bs bf fx i)), (8, .int (bf (i + 1))), (7, .int (nI i)), (0, .ref w), (1, .int pa), (2, .int d1), (3, .int d2), (4, .ref dx)]) hx hb dX3_cashOf_56 hl (by decide) rfl (fun ls hl => ?_)
            refine lv_iinc (v := nI (i + 1)) (lv' := [(7, .int (nI (i + 1))), (5, .long (cshS T bs hs bf fx pa d1 d2 i + flwS T bs bf fx i)), (8, .int (bf (i + 1))), (0, .ref w), (1, .int pa), (2, .int d1), (3, .int d2), (4, .ref dx)]) hx hb dX3_cashOf_58 hl (k := 2) rfl (nI_1 i) (by decide) rfl (fun ls hl => ?_)
            refine lv_goto (tgt := 6) hx hb dX3_cashOf_61 (by decide) ?_
            exact ih (i + 1) ls (by omega) (by
              have e : cshS T bs hs bf fx pa d1 d2 (i + 1) = cshS T bs hs bf fx pa d1 d2 i + flwS T bs bf fx i := by simp only [cshS]; rw [if_pos ⟨Int32.not_lt.mp c1, Int32.not_lt.mp c2, c3⟩]
              rw [e]
              exact (lv_sub hl [0, 1, 3, 4, 5, 6, 7] rfl))
  exact loop np 0 ls (by omega) (lv_sub hl [0, 1, 2, 3, 4, 5, 6] rfl)

set_option maxRecDepth 100000 in
set_option maxHeartbeats 4000000 in
/-- Swap.nextPayDay -/
theorem c_np (E : ET) (w : Nat) (T : Nat → Int32) (db dh bd : Nat) (bf : Nat → Int32) (bs hs : Dy) (np : Nat) (pa day : Int32) (H : Heap) (hn : T 6 = nI np) (hnp : np ≤ 10) (h : SRx E w T db dh bd bf bs hs H) : PCon E yX3_nextPayDay cX3_nextPayDay 5 (some FieldType.int) 6 [.ref w, .int pa, .int day] H (some (.int (npS T hs bf pa day np 0))) := by
  refine PCon.of (C := RX3) rfl (by decide +kernel) (Nat.le_of_ble_eq_true rfl) ?_
  intro p e s m below meth co ls hx hb hr hlk hml hown hts hE hH hl
  have hl : lv_has ls 5 [(0, .ref w), (1, .int pa), (2, .int day)] := hl
  obtain ⟨hO, hB, hHd, hA⟩ := id h
  refine lv_iconst (v := 0) hx hb dX3_nextPayDay_0 (by decide) ?_
  refine lv_istore_n (lv' := [(3, .int 0), (0, .ref w), (1, .int pa), (2, .int day)]) hx hb dX3_nextPayDay_1 rfl hl (by decide) rfl (fun ls hl => ?_)
  have loop : ∀ (n i : Nat) (ls : Array Slot), i + n = np → npS T hs bf pa day np 0 = npS T hs bf pa day n i → lv_has ls 5 [(3, .int (nI i)), (0, .ref w), (1, .int pa), (2, .int day)] → W p (eL E) e (rmk 6 0 0) s m ([.ref w, .int pa, .int day]).toArray below meth co H [] 0 0 (MQ below (PQ (some (.int (npS T hs bf pa day np 0)))) ([.ref w, .int pa, .int day]).toArray s 0 0 (fun _ => False)) (F0 m 2 ls []) := by
    intro n
    induction n with
    | zero =>
      intro i ls hi he hl
      have hi2 : i = np := by omega
      subst hi2
      refine lv_iload_n hx hb dX3_nextPayDay_2 rfl (lv_at hl 0 rfl) ?_
      refine lv_aload_n hx hb dX3_nextPayDay_3 rfl (lv_at hl 1 rfl) ?_
      refine gf hx hb hts hown hE lkX3_31 hO rfl dX3_nextPayDay_4 ?_
      refine lv_icmp_ge (tgt := 42) hx hb dX3_nextPayDay_7 (by decide) (fun c => ?_) (fun c => ?_)
      rotate_left
      · exact absurd (by rw [hn]; exact nI_le (Nat.le_refl _) (by omega)) c
      refine lv_iconst (v := (-1)) hx hb dX3_nextPayDay_42 (by decide) ?_
      exact pI hx hb hr hlk hH (by rw [he]; rfl) dX3_nextPayDay_43
    | succ n ih =>
      intro i ls hi he hl
      refine lv_iload_n hx hb dX3_nextPayDay_2 rfl (lv_at hl 0 rfl) ?_
      refine lv_aload_n hx hb dX3_nextPayDay_3 rfl (lv_at hl 1 rfl) ?_
      refine gf hx hb hts hown hE lkX3_31 hO rfl dX3_nextPayDay_4 ?_
      refine lv_icmp_ge (tgt := 42) hx hb dX3_nextPayDay_7 (by decide) (fun c => ?_) (fun c => ?_)
      · exact absurd c (by rw [hn]; exact nI_ge (by omega) (by omega))
      refine lv_aload_n hx hb dX3_nextPayDay_10 rfl (lv_at hl 1 rfl) ?_
      refine lv_iload_n hx hb dX3_nextPayDay_11 rfl (lv_at hl 0 rfl) ?_
      refine pV hx hb hml hts hown hE kwX3_95 (c_end E w T db dh bd bf bs hs i H (by omega) h) hO rfl (Nat.le_of_ble_eq_true rfl) rfl hl.1 rfl (Nat.le_of_ble_eq_true rfl) (Nat.le_refl _) (Nat.le_refl _) dX3_nextPayDay_12 ?_
      refine lv_istore (lv' := [(4, .int (bf (i + 1))), (3, .int (nI i)), (0, .ref w), (1, .int pa), (2, .int day)]) hx hb dX3_nextPayDay_15 hl (by decide) rfl (fun ls hl => ?_)
      refine lv_iload hx hb dX3_nextPayDay_17 (lv_at hl 0 rfl) ?_
      refine lv_iload_n hx hb dX3_nextPayDay_19 rfl (lv_at hl 4 rfl) ?_
      refine lv_icmp_lt (tgt := 36) hx hb dX3_nextPayDay_20 (by decide) (fun c1 => ?_) (fun c1 => ?_)
      · refine lv_iinc (v := nI (i + 1)) (lv' := [(3, .int (nI (i + 1))), (4, .int (bf (i + 1))), (0, .ref w), (1, .int pa), (2, .int day)]) hx hb dX3_nextPayDay_36 hl (k := 1) rfl (nI_1 i) (by decide) rfl (fun ls hl => ?_)
        refine lv_goto (tgt := 2) hx hb dX3_nextPayDay_39 (by decide) ?_
        exact ih (i + 1) ls (by omega) (he.trans (by simp only [npS]; rw [if_neg (fun q => absurd q.1 (Int32.not_le.mpr c1))])) (lv_sub hl [0, 2, 3, 4] rfl)
      · refine lv_aload_n hx hb dX3_nextPayDay_23 rfl (lv_at hl 2 rfl) ?_
        refine lv_iload hx hb dX3_nextPayDay_24 (lv_at hl 0 rfl) ?_
        refine pV hx hb hml hts hown hE kwX3_98 (c_hold E w T db dh bd bf bs hs (bf (i + 1)) H h) hO rfl (Nat.le_of_ble_eq_true rfl) rfl hl.1 rfl (Nat.le_of_ble_eq_true rfl) (Nat.le_refl _) (Nat.le_refl _) dX3_nextPayDay_26 ?_
        refine lv_iload_n hx hb dX3_nextPayDay_29 rfl (lv_at hl 3 rfl) ?_
        refine lv_icmp_ne (tgt := 36) hx hb dX3_nextPayDay_30 (by decide) (fun c3 => ?_) (fun c3 => ?_)
        · refine lv_iinc (v := nI (i + 1)) (lv' := [(3, .int (nI (i + 1))), (4, .int (bf (i + 1))), (0, .ref w), (1, .int pa), (2, .int day)]) hx hb dX3_nextPayDay_36 hl (k := 1) rfl (nI_1 i) (by decide) rfl (fun ls hl => ?_)
          refine lv_goto (tgt := 2) hx hb dX3_nextPayDay_39 (by decide) ?_
          exact ih (i + 1) ls (by omega) (he.trans (by simp only [npS]; rw [if_neg (fun q => c3 q.2)])) (lv_sub hl [0, 2, 3, 4] rfl)
        · refine lv_iload hx hb dX3_nextPayDay_33 (lv_at hl 0 rfl) ?_
          exact pI hx hb hr hlk hH (by rw [he]; simp only [npS]; rw [if_pos ⟨Int32.not_lt.mp c1, c3⟩]) dX3_nextPayDay_35
  exact loop np 0 ls (by omega) rfl (lv_sub hl [0, 1, 2, 3] rfl)
end
section
theorem smpS_no {T U : Nat → Int32} {hs hu : Dy} {bf : Nat → Int32} {day : Int32} {i : Nat} (c : bf i < day) : smpS T U hs hu bf day (i + 1) = smpS T U hs hu bf day i := by
  simp only [smpS]
  rw [if_neg (Int32.not_le.mpr c)]
theorem smpS_yes {T U : Nat → Int32} {hs hu : Dy} {bf : Nat → Int32} {day : Int32} {i : Nat} (c : ¬ bf i < day) : smpS T U hs hu bf day (i + 1) = (true, (smpS T U hs hu bf day i).2 && decide (hldS T hs (bf (i + 1)) = hldS U hu (bf (i + 1)))) := by
  simp only [smpS]
  rw [if_pos (Int32.not_lt.mp c)]
set_option maxRecDepth 100000 in
set_option maxHeartbeats 4000000 in
/-- Swap.fits -/
theorem c_fits (E : ET) (w x : Nat) (T U : Nat → Int32) (db dh bd dc di be : Nat) (H : Heap) (hO : OB E 4 (tfs T db dh bd) w H) (hU : OB E 4 (tfs U dc di be) x H) : PCon E yX3_fits cX3_fits 2 (some FieldType.boolean) 1 [.ref w, .ref x] H (some (.int (if fitS T U then 1 else 0))) := by
  refine PCon.of (C := RX3) rfl (by decide +kernel) (Nat.le_of_ble_eq_true rfl) ?_
  intro p e s m below meth co ls hx hb hr hlk hml hown hts hE hH hl
  have hl : lv_has ls 2 [(0, .ref w), (1, .ref x)] := hl
  refine lv_aload_n hx hb dX3_fits_0 rfl (lv_at hl 0 rfl) ?_
  refine gf hx hb hts hown hE lkX3_18 hO rfl dX3_fits_1 ?_
  refine lv_aload_n hx hb dX3_fits_4 rfl (lv_at hl 1 rfl) ?_
  refine gf hx hb hts hown hE lkX3_18 hU rfl dX3_fits_5 ?_
  refine lv_icmp_eq (tgt := 92) hx hb dX3_fits_8 (by decide) (fun c2 => ?_) (fun c2 => ?_)
  · refine lv_iconst (v := 0) hx hb dX3_fits_92 (by decide) ?_
    exact pZ hx hb hr hlk hH (by simp [fitS, c2]) dX3_fits_93
  · refine lv_aload_n hx hb dX3_fits_11 rfl (lv_at hl 0 rfl) ?_
    refine gf hx hb hts hown hE lkX3_22 hO rfl dX3_fits_12 ?_
    refine lv_aload_n hx hb dX3_fits_15 rfl (lv_at hl 1 rfl) ?_
    refine gf hx hb hts hown hE lkX3_22 hU rfl dX3_fits_16 ?_
    refine lv_icmp_ne (tgt := 92) hx hb dX3_fits_19 (by decide) (fun c3 => ?_) (fun c3 => ?_)
    · refine lv_iconst (v := 0) hx hb dX3_fits_92 (by decide) ?_
      exact pZ hx hb hr hlk hH (by simp [fitS, c2, c3]) dX3_fits_93
    · refine lv_aload_n hx hb dX3_fits_22 rfl (lv_at hl 0 rfl) ?_
      refine gf hx hb hts hown hE lkX3_34 hO rfl dX3_fits_23 ?_
      refine lv_aload_n hx hb dX3_fits_26 rfl (lv_at hl 1 rfl) ?_
      refine gf hx hb hts hown hE lkX3_34 hU rfl dX3_fits_27 ?_
      refine lv_icmp_ne (tgt := 92) hx hb dX3_fits_30 (by decide) (fun c7 => ?_) (fun c7 => ?_)
      · refine lv_iconst (v := 0) hx hb dX3_fits_92 (by decide) ?_
        exact pZ hx hb hr hlk hH (by simp [fitS, c2, c3, c7]) dX3_fits_93
      · refine lv_aload_n hx hb dX3_fits_33 rfl (lv_at hl 0 rfl) ?_
        refine gf hx hb hts hown hE lkX3_25 hO rfl dX3_fits_34 ?_
        refine lv_aload_n hx hb dX3_fits_37 rfl (lv_at hl 1 rfl) ?_
        refine gf hx hb hts hown hE lkX3_25 hU rfl dX3_fits_38 ?_
        refine lv_icmp_ne (tgt := 92) hx hb dX3_fits_41 (by decide) (fun c4 => ?_) (fun c4 => ?_)
        · refine lv_iconst (v := 0) hx hb dX3_fits_92 (by decide) ?_
          exact pZ hx hb hr hlk hH (by simp [fitS, c2, c3, c7, c4]) dX3_fits_93
        · refine lv_aload_n hx hb dX3_fits_44 rfl (lv_at hl 0 rfl) ?_
          refine gf hx hb hts hown hE lkX3_28 hO rfl dX3_fits_45 ?_
          refine lv_aload_n hx hb dX3_fits_48 rfl (lv_at hl 1 rfl) ?_
          refine gf hx hb hts hown hE lkX3_28 hU rfl dX3_fits_49 ?_
          refine lv_icmp_ne (tgt := 92) hx hb dX3_fits_52 (by decide) (fun c5 => ?_) (fun c5 => ?_)
          · refine lv_iconst (v := 0) hx hb dX3_fits_92 (by decide) ?_
            exact pZ hx hb hr hlk hH (by simp [fitS, c2, c3, c7, c4, c5]) dX3_fits_93
          · refine lv_aload_n hx hb dX3_fits_55 rfl (lv_at hl 0 rfl) ?_
            refine gf hx hb hts hown hE lkX3_31 hO rfl dX3_fits_56 ?_
            refine lv_aload_n hx hb dX3_fits_59 rfl (lv_at hl 1 rfl) ?_
            refine gf hx hb hts hown hE lkX3_31 hU rfl dX3_fits_60 ?_
            refine lv_icmp_ne (tgt := 92) hx hb dX3_fits_63 (by decide) (fun c6 => ?_) (fun c6 => ?_)
            · refine lv_iconst (v := 0) hx hb dX3_fits_92 (by decide) ?_
              exact pZ hx hb hr hlk hH (by simp [fitS, c2, c3, c7, c4, c5, c6]) dX3_fits_93
            · refine lv_aload_n hx hb dX3_fits_66 rfl (lv_at hl 0 rfl) ?_
              refine gf hx hb hts hown hE lkX3_37 hO rfl dX3_fits_67 ?_
              refine lv_aload_n hx hb dX3_fits_70 rfl (lv_at hl 1 rfl) ?_
              refine gf hx hb hts hown hE lkX3_37 hU rfl dX3_fits_71 ?_
              refine lv_icmp_ne (tgt := 92) hx hb dX3_fits_74 (by decide) (fun c8 => ?_) (fun c8 => ?_)
              · refine lv_iconst (v := 0) hx hb dX3_fits_92 (by decide) ?_
                exact pZ hx hb hr hlk hH (by simp [fitS, c2, c3, c7, c4, c5, c6, c8]) dX3_fits_93
              · refine lv_aload_n hx hb dX3_fits_77 rfl (lv_at hl 0 rfl) ?_
                refine gf hx hb hts hown hE lkX3_40 hO rfl dX3_fits_78 ?_
                refine lv_aload_n hx hb dX3_fits_81 rfl (lv_at hl 1 rfl) ?_
                refine gf hx hb hts hown hE lkX3_40 hU rfl dX3_fits_82 ?_
                refine lv_icmp_ne (tgt := 92) hx hb dX3_fits_85 (by decide) (fun c9 => ?_) (fun c9 => ?_)
                · refine lv_iconst (v := 0) hx hb dX3_fits_92 (by decide) ?_
                  exact pZ hx hb hr hlk hH (by simp [fitS, c2, c3, c7, c4, c5, c6, c8, c9]) dX3_fits_93
                · refine lv_iconst (v := 1) hx hb dX3_fits_88 (by decide) ?_
                  refine lv_goto (tgt := 93) hx hb dX3_fits_89 (by decide) ?_
                  exact pZ hx hb hr hlk hH (by simp [fitS, c2, c3, c7, c4, c5, c6, c8, c9]) dX3_fits_93

set_option maxRecDepth 100000 in
set_option maxHeartbeats 4000000 in
/-- Swap.isOfSamePartyFrom -/
theorem c_same (E : ET) (w : Nat) (T : Nat → Int32) (db dh bd : Nat) (bf : Nat → Int32) (bs hs : Dy) (x np : Nat) (U : Nat → Int32) (dc di be : Nat) (bg : Nat → Int32) (bu hu : Dy) (day : Int32) (H : Heap) (hn : T 6 = nI np) (hnp : np ≤ 10) (h : SRx E w T db dh bd bf bs hs H) (hU : SRx E x U dc di be bg bu hu H) : PCon E yX3_isOfSamePartyFrom cX3_isOfSamePartyFrom 6 (some FieldType.boolean) 6 [.ref w, .int day, .ref x] H (some (.int (if smeS T U hs hu bf day np then 1 else 0))) := by
  refine PCon.of (C := RX3) rfl (by decide +kernel) (Nat.le_of_ble_eq_true rfl) ?_
  intro p e s m below meth co ls hx hb hr hlk hml hown hts hE hH hl
  have hl : lv_has ls 6 [(0, .ref w), (1, .int day), (2, .ref x)] := hl
  obtain ⟨hO, hB, hHd, hA⟩ := id h
  obtain ⟨hOU, hBU, hHU, hAU⟩ := id hU
  refine lv_iconst (v := 0) hx hb dX3_isOfSamePartyFrom_0 (by decide) ?_
  refine lv_istore_n (lv' := [(3, .int 0), (0, .ref w), (1, .int day), (2, .ref x)]) hx hb dX3_isOfSamePartyFrom_1 rfl hl (by decide) rfl (fun ls hl => ?_)
  refine lv_iconst (v := 0) hx hb dX3_isOfSamePartyFrom_2 (by decide) ?_
  refine lv_istore (lv' := [(4, .int 0), (3, .int 0), (0, .ref w), (1, .int day), (2, .ref x)]) hx hb dX3_isOfSamePartyFrom_3 hl (by decide) rfl (fun ls hl => ?_)
  have loop : ∀ (n i : Nat) (ls : Array Slot), i + n = np → (smpS T U hs hu bf day i).2 = true → lv_has ls 6 [(4, .int (nI i)), (3, .int (if (smpS T U hs hu bf day i).1 then 1 else 0)), (0, .ref w), (1, .int day), (2, .ref x)] → W p (eL E) e (rmk 6 0 0) s m ([.ref w, .int day, .ref x]).toArray below meth co H [] 0 0 (MQ below (PQ (some (.int (if smeS T U hs hu bf day np then 1 else 0)))) ([.ref w, .int day, .ref x]).toArray s 0 0 (fun _ => False)) (F0 m 5 ls []) := by
    intro n
    induction n with
    | zero =>
      intro i ls hi ha hl
      have hi2 : i = np := by omega
      subst hi2
      refine lv_iload hx hb dX3_isOfSamePartyFrom_5 (lv_at hl 0 rfl) ?_
      refine lv_aload_n hx hb dX3_isOfSamePartyFrom_7 rfl (lv_at hl 2 rfl) ?_
      refine gf hx hb hts hown hE lkX3_31 hO rfl dX3_isOfSamePartyFrom_8 ?_
      refine lv_icmp_ge (tgt := 57) hx hb dX3_isOfSamePartyFrom_11 (by decide) (fun c => ?_) (fun c => ?_)
      rotate_left
      · exact absurd (by rw [hn]; exact nI_le (Nat.le_refl _) (by omega)) c
      refine lv_iload_n hx hb dX3_isOfSamePartyFrom_57 rfl (lv_at hl 1 rfl) ?_
      exact pZ hx hb hr hlk hH (by simp [smeS, ha]) dX3_isOfSamePartyFrom_58
    | succ n ih =>
      intro i ls hi ha hl
      refine lv_iload hx hb dX3_isOfSamePartyFrom_5 (lv_at hl 0 rfl) ?_
      refine lv_aload_n hx hb dX3_isOfSamePartyFrom_7 rfl (lv_at hl 2 rfl) ?_
      refine gf hx hb hts hown hE lkX3_31 hO rfl dX3_isOfSamePartyFrom_8 ?_
      refine lv_icmp_ge (tgt := 57) hx hb dX3_isOfSamePartyFrom_11 (by decide) (fun c => ?_) (fun c => ?_)
      · exact absurd c (by rw [hn]; exact nI_ge (by omega) (by omega))
      refine lv_aload_n hx hb dX3_isOfSamePartyFrom_14 rfl (lv_at hl 2 rfl) ?_
      refine lv_iload hx hb dX3_isOfSamePartyFrom_15 (lv_at hl 0 rfl) ?_
      refine pV hx hb hml hts hown hE kwX3_63 (c_start E w T db dh bd bf bs hs i H (by omega) h) hO rfl (Nat.le_of_ble_eq_true rfl) rfl hl.1 rfl (Nat.le_of_ble_eq_true rfl) (Nat.le_refl _) (Nat.le_refl _) dX3_isOfSamePartyFrom_17 ?_
      refine lv_iload_n hx hb dX3_isOfSamePartyFrom_20 rfl (lv_at hl 3 rfl) ?_
      refine lv_icmp_lt (tgt := 51) hx hb dX3_isOfSamePartyFrom_21 (by decide) (fun c1 => ?_) (fun c1 => ?_)
      · refine lv_iinc (v := nI (i + 1)) (lv' := [(4, .int (nI (i + 1))), (3, .int (if (smpS T U hs hu bf day i).1 then 1 else 0)), (0, .ref w), (1, .int day), (2, .ref x)]) hx hb dX3_isOfSamePartyFrom_51 hl (k := 0) rfl (nI_1 i) (by decide) rfl (fun ls hl => ?_)
        refine lv_goto (tgt := 5) hx hb dX3_isOfSamePartyFrom_54 (by decide) ?_
        exact ih (i + 1) ls (by omega) (by rw [smpS_no c1]; exact ha) (by
          have e : (if (smpS T U hs hu bf day (i + 1)).1 then (1 : Int32) else 0) = (if (smpS T U hs hu bf day i).1 then 1 else 0) := by rw [smpS_no c1]
          rw [e]
          exact (lv_sub hl [0, 1, 2, 3, 4] rfl))
      · refine lv_iconst (v := 1) hx hb dX3_isOfSamePartyFrom_24 (by decide) ?_
        refine lv_istore_n (lv' := [(3, .int 1), (4, .int (nI i)), (0, .ref w), (1, .int day), (2, .ref x)]) hx hb dX3_isOfSamePartyFrom_25 rfl hl (by decide) rfl (fun ls hl => ?_)
        refine lv_aload_n hx hb dX3_isOfSamePartyFrom_26 rfl (lv_at hl 2 rfl) ?_
        refine lv_iload hx hb dX3_isOfSamePartyFrom_27 (lv_at hl 1 rfl) ?_
        refine pV hx hb hml hts hown hE kwX3_95 (c_end E w T db dh bd bf bs hs i H (by omega) h) hO rfl (Nat.le_of_ble_eq_true rfl) rfl hl.1 rfl (Nat.le_of_ble_eq_true rfl) (Nat.le_refl _) (Nat.le_refl _) dX3_isOfSamePartyFrom_29 ?_
        refine lv_istore (lv' := [(5, .int (bf (i + 1))), (3, .int 1), (4, .int (nI i)), (0, .ref w), (1, .int day), (2, .ref x)]) hx hb dX3_isOfSamePartyFrom_32 hl (by decide) rfl (fun ls hl => ?_)
        refine lv_aload_n hx hb dX3_isOfSamePartyFrom_34 rfl (lv_at hl 3 rfl) ?_
        refine lv_iload hx hb dX3_isOfSamePartyFrom_35 (lv_at hl 0 rfl) ?_
        refine pV hx hb hml hts hown hE kwX3_98 (c_hold E w T db dh bd bf bs hs (bf (i + 1)) H h) hO rfl (Nat.le_of_ble_eq_true rfl) rfl hl.1 rfl (Nat.le_of_ble_eq_true rfl) (Nat.le_refl _) (Nat.le_refl _) dX3_isOfSamePartyFrom_37 ?_
        refine lv_aload_n hx hb dX3_isOfSamePartyFrom_40 rfl (lv_at hl 5 rfl) ?_
        refine lv_iload hx hb dX3_isOfSamePartyFrom_41 (lv_at hl 0 rfl) ?_
        refine pV hx hb hml hts hown hE kwX3_98 (c_hold E x U dc di be bg bu hu (bf (i + 1)) H hU) hOU rfl (Nat.le_of_ble_eq_true rfl) rfl hl.1 rfl (Nat.le_of_ble_eq_true rfl) (Nat.le_refl _) (Nat.le_refl _) dX3_isOfSamePartyFrom_43 ?_
        refine lv_icmp_eq (tgt := 51) hx hb dX3_isOfSamePartyFrom_46 (by decide) (fun c2 => ?_) (fun c2 => ?_)
        · refine lv_iinc (v := nI (i + 1)) (lv' := [(4, .int (nI (i + 1))), (5, .int (bf (i + 1))), (3, .int 1), (0, .ref w), (1, .int day), (2, .ref x)]) hx hb dX3_isOfSamePartyFrom_51 hl (k := 2) rfl (nI_1 i) (by decide) rfl (fun ls hl => ?_)
          refine lv_goto (tgt := 5) hx hb dX3_isOfSamePartyFrom_54 (by decide) ?_
          exact ih (i + 1) ls (by omega) (by rw [smpS_yes c1]; simp [ha, c2]) (by
            have e : (if (smpS T U hs hu bf day (i + 1)).1 then (1 : Int32) else 0) = 1 := by rw [smpS_yes c1]; rfl
            rw [e]
            exact (lv_sub hl [0, 2, 3, 4, 5] rfl))
        · refine lv_iconst (v := 0) hx hb dX3_isOfSamePartyFrom_49 (by decide) ?_
          have hf : (smpS T U hs hu bf day (i + 1)).2 = false := by rw [smpS_yes c1]; simp [c2]
          exact pZ hx hb hr hlk hH (by simp [smeS, smpS_f hf np (by omega)]) dX3_isOfSamePartyFrom_50
  exact loop np 0 ls (by omega) rfl (lv_sub hl [0, 1, 2, 3, 4] rfl)
end
section
/-! the rolled day is open: forty holidays don't close a thousand days -/
theorem pigeon {α : Type} [DecidableEq α] : ∀ (L : List α) (n : Nat) (f : Nat → α), (∀ j, j < n → f j ∈ L) → (∀ i j, i < n → j < n → f i = f j → i = j) → n ≤ L.length := by
  intro L
  induction L with
  | nil =>
    intro n f h _
    rcases Nat.eq_zero_or_pos n with q | q
    · omega
    · exact absurd (h 0 q) List.not_mem_nil
  | cons a L ih =>
    intro n f h inj
    by_cases c : ∃ j, j < n ∧ f j = a
    · obtain ⟨j0, hj0, e0⟩ := c
      have := ih (n - 1) (fun j => if j < j0 then f j else f (j + 1)) (fun j hj => by
        try dsimp only
        by_cases q : j < j0
        · rw [if_pos q]
          rcases List.mem_cons.mp (h j (by omega)) with r | r
          · exact absurd (inj j j0 (by omega) hj0 (r.trans e0.symm)) (by omega)
          · exact r
        · rw [if_neg q]
          rcases List.mem_cons.mp (h (j + 1) (by omega)) with r | r
          · exact absurd (inj (j + 1) j0 (by omega) hj0 (r.trans e0.symm)) (by omega)
          · exact r) (fun i j hi hj e => by
        try dsimp only at e
        by_cases qi : i < j0 <;> by_cases qj : j < j0
        · rw [if_pos qi, if_pos qj] at e; exact inj i j (by omega) (by omega) e
        · rw [if_pos qi, if_neg qj] at e; have := inj i (j + 1) (by omega) (by omega) e; omega
        · rw [if_neg qi, if_pos qj] at e; have := inj (i + 1) j (by omega) (by omega) e; omega
        · rw [if_neg qi, if_neg qj] at e; have := inj (i + 1) (j + 1) (by omega) (by omega) e; omega)
      rw [List.length_cons]
      omega
    · have := ih n f (fun j hj => by
        rcases List.mem_cons.mp (h j hj) with r | r
        · exact absurd ⟨j, hj, r⟩ c
        · exact r) inj
      rw [List.length_cons]
      omega
theorem ixL_mem {d : Int32} : ∀ (es : Dy) (i j : Nat), ixL d i es = some j → d ∈ es.map (·.1)
  | [], i, j, h => by simp [ixL] at h
  | x :: xs, i, j, h => by
    unfold ixL at h
    by_cases c : x.1 = d
    · simp [c]
    · rw [if_neg c] at h
      have := ixL_mem xs (i + 1) j h
      simp only [List.map_cons, List.mem_cons]
      exact Or.inr this
theorem ixL_of_mem {d : Int32} : ∀ (es : Dy) (i : Nat), d ∈ es.map (·.1) → (ixL d i es).isSome = true
  | [], i, h => by simp at h
  | x :: xs, i, h => by
    unfold ixL
    by_cases c : x.1 = d
    · rw [if_pos c]; rfl
    · rw [if_neg c]
      simp only [List.map_cons, List.mem_cons] at h
      exact ixL_of_mem xs (i + 1) (h.resolve_left (fun q => c q.symm))
theorem dHas_iff {es : Dy} {d : Int32} : dHas es d = true ↔ d ∈ es.map (·.1) := by
  constructor
  · intro h
    unfold dHas at h
    cases hx : ixL d 0 es with
    | none => rw [hx] at h; cases h
    | some j => exact ixL_mem es 0 j hx
  · exact ixL_of_mem es 0
theorem rolF_closed (h0 h1 : Dy) : ∀ n d, opn h0 h1 (rolF h0 h1 n d) = false → ∀ j, j < n → opn h0 h1 (d + j) = false
  | 0, d, _, j, hj => by omega
  | n + 1, d, h, j, hj => by
    unfold rolF at h
    cases c : opn h0 h1 d with
    | true => rw [c] at h; simp [c] at h
    | false =>
      rw [c] at h
      cases j with
      | zero => exact c
      | succ j =>
        have := rolF_closed h0 h1 n (d + 1) (by simpa using h) j (by omega)
        rw [show d + (j + 1) = d + 1 + j by omega]
        exact this
theorem rolF_least (h0 h1 : Dy) : ∀ n d e, d ≤ e → e < rolF h0 h1 n d → opn h0 h1 e = false
  | 0, d, e, h, h2 => by unfold rolF at h2; omega
  | n + 1, d, e, h, h2 => by
    unfold rolF at h2
    cases c : opn h0 h1 d with
    | true => rw [c] at h2; simp at h2; omega
    | false =>
      rw [c] at h2
      rcases Nat.eq_or_lt_of_le h with q | q
      · rw [← q]; exact c
      · exact rolF_least h0 h1 n (d + 1) e q (by simpa using h2)
theorem opn_rol {h0 h1 : Dy} (n0 : h0.length ≤ 20) (n1 : h1.length ≤ 20) {d : Nat} (hd : d < 2 ^ 30) : opn h0 h1 (rol h0 h1 d) = true := by
  cases c : opn h0 h1 (rol h0 h1 d) with
  | true => rfl
  | false =>
    have hc := rolF_closed h0 h1 1000 d c
    have := pigeon ((h0.map (·.1)) ++ (h1.map (·.1))) 41 (fun j => nI (d + ((7 - d % 7) % 7 + 7 * j))) (fun j hj => by
      have h1' := hc ((7 - d % 7) % 7 + 7 * j) (by omega)
      have hm : (d + ((7 - d % 7) % 7 + 7 * j)) % 7 < 5 := by omega
      unfold opn at h1'
      rw [decide_eq_true hm] at h1'
      rw [List.mem_append]
      cases a : dHas h0 (nI (d + ((7 - d % 7) % 7 + 7 * j))) with
      | true => exact Or.inl (dHas_iff.mp a)
      | false =>
        cases b : dHas h1 (nI (d + ((7 - d % 7) % 7 + 7 * j))) with
        | true => exact Or.inr (dHas_iff.mp b)
        | false => rw [a, b] at h1'; simp at h1') (fun i j hi hj e => by
      have := (nI_eq (by omega) (by omega)).mp e
      omega)
    simp at this
    omega
theorem rol_ge (h0 h1 : Dy) (d : Nat) : d ≤ rol h0 h1 d := (rolF_ge h0 h1 1000 d).1
theorem rol_le (h0 h1 : Dy) (d : Nat) : rol h0 h1 d ≤ d + 1000 := (rolF_ge h0 h1 1000 d).2
theorem rol_least {h0 h1 : Dy} {d e : Nat} (h : d ≤ e) (ho : opn h0 h1 e = true) : rol h0 h1 d ≤ e := by
  rcases Nat.lt_or_ge e (rol h0 h1 d) with q | q
  · rw [rolF_least h0 h1 1000 d e h q] at ho; cases ho
  · exact q
theorem rol_mono {h0 h1 : Dy} (n0 : h0.length ≤ 20) (n1 : h1.length ≤ 20) {d e : Nat} (he : e < 2 ^ 30) (h : d ≤ e) : rol h0 h1 d ≤ rol h0 h1 e :=
  rol_least (Nat.le_trans h (rol_ge h0 h1 e)) (opn_rol n0 n1 he)
theorem rol_open {h0 h1 : Dy} {d : Nat} (h : opn h0 h1 d = true) : rol h0 h1 d = d := by
  have := rol_least (Nat.le_refl d) h
  have := rol_ge h0 h1 d
  omega
theorem rol_next {h0 h1 : Dy} (n0 : h0.length ≤ 20) (n1 : h1.length ≤ 20) {d : Nat} (hd : d + 1 < 2 ^ 30) (h : opn h0 h1 d = false) : rol h0 h1 (d + 1) = rol h0 h1 d := by
  have a1 := rol_mono n0 n1 hd (Nat.le_succ d)
  have a2 : d + 1 ≤ rol h0 h1 d := by
    have := rol_ge h0 h1 d
    rcases Nat.eq_or_lt_of_le this with q | q
    · have := opn_rol n0 n1 (d := d) (by omega)
      rw [← q, h] at this
      cases this
    · exact q
  have := rol_least a2 (opn_rol n0 n1 (by omega))
  omega
end
section
/-! the reference's state beside the lists -/
abbrev BK : Type := List (Int32 × Int32 × Int32)
abbrev mfs (sc : Nat → Int32) (ad : Nat → Nat) : List Value := [.int (sc 0), .ref (ad 1), .ref (ad 2), .ref (ad 3), .ref (ad 4), .int (sc 5), .int (sc 6), .ref (ad 7), .ref (ad 8), .ref (ad 9), .ref (ad 10), .ref (ad 11), .ref (ad 12), .ref (ad 13), .ref (ad 14), .ref (ad 15), .ref (ad 16), .int (sc 17), .ref (ad 18), .ref (ad 19), .ref (ad 20), .ref (ad 21), .ref (ad 22), .ref (ad 23)]
def mN (k : Nat) : Nat := if k = 1 then 6002 else if k = 2 then 2 else if k = 3 then 3001 else if k = 4 then 3001 else if k = 18 then 10000 else if k = 19 then 10000 else if k = 20 then 10000 else if k = 22 then 100 else if k = 23 then 100 else 10
def mZ (k : Nat) : Nat := if k = 1 then 1 else if k = 3 then 1 else if k = 9 then 1 else 0
def mK (k : Nat) : Bool := decide (1 ≤ k) && (decide (k ≤ 23) && (decide (k ≠ 5) && (decide (k ≠ 6) && decide (k ≠ 17))))
/-- the reference's object and its arrays -/
def MX (E : ET) (x : Nat) (sc : Nat → Int32) (ad : Nat → Nat) (ar : Nat → Nat → Int32) (H : Heap) : Prop := OB E 6 (mfs sc ad) x H ∧ ∀ k, mK k = true → va_P (eD E) vwCl [(ad k, .inl (eA E (mZ k), mN k, .inl (ar k)))] H
def dysIn (h : Dy) : Prop := ∀ x ∈ h, ∃ d, d ≤ 3000 ∧ x.1 = nI d
def holR (h0 h1 : Dy) (f : Nat → Int32) : Prop := ∀ d, d ≤ 3000 → f d = (if dHas h0 (nI d) then 1 else 0) ∧ f (3001 + d) = (if dHas h1 (nI d) then 1 else 0)
def fixR (fx : Dy) (f g : Nat → Int32) : Prop := ∀ d, d ≤ 3000 → f d = (if dHas fx (nI d) then 1 else 0) ∧ ∀ v, (nI d, v) ∈ fx → g d = v
def TV (tr : TR) : Prop := ∃ pa lo f le n : Nat, pa ≤ 3 ∧ 1 ≤ lo ∧ lo ≤ 1000 ∧ f ≤ 1000 ∧ 5 ≤ le ∧ le ≤ 180 ∧ 1 ≤ n ∧ n ≤ 10 ∧ tr.1 0 = nI pa ∧ tr.1 1 = nI lo ∧ (tr.1 2 = 0 ∨ tr.1 2 = 1) ∧ tr.1 4 = nI f ∧ tr.1 5 = nI le ∧ tr.1 6 = nI n ∧ (tr.1 8 = 0 ∨ tr.1 8 = 1) ∧ (tr.1 9 = 0 ∨ tr.1 9 = 1 ∨ tr.1 9 = 2) ∧ dysIn tr.2.1 ∧ tr.2.2.length ≤ 10
def SV (h0 h1 fx : Dy) (ts : List TR) : Prop := h0.length ≤ 20 ∧ h1.length ≤ 20 ∧ dysIn h0 ∧ dysIn h1 ∧ dysIn fx ∧ fx.length ≤ 60 ∧ (fx.map (·.1)).Nodup ∧ ts.length ≤ 10 ∧ ∀ tr ∈ ts, TV tr
def brk (B : BK) (t : Nat) : Dy := (B.filter (fun e => e.1 == nI t)).map (·.2)
def MI (sc : Nat → Int32) (ar : Nat → Nat → Int32) (h0 h1 fx : Dy) (ts : List TR) (B : BK) : Prop :=
  holR h0 h1 (ar 1) ∧ (ar 2 0 = nI h0.length ∧ ar 2 1 = nI h1.length) ∧ fixR fx (ar 3) (ar 4) ∧ sc 5 = nI fx.length ∧ sc 6 = nI ts.length ∧
  (∀ t tr, ts[t]? = some tr → ∀ j, j < 10 → ar (7 + j) t = tr.1 j) ∧ (∀ t, ts.length ≤ t → t < 10 → ar 14 t = 0 ∧ ar 15 t = 0 ∧ ar 16 t = 0 ∧ ar 21 t = 0) ∧
  (sc 17 = nI B.length ∧ B.length ≤ 9000) ∧ (∀ k e, B[k]? = some e → ar 18 k = e.1 ∧ ar 19 k = e.2.1 ∧ ar 20 k = e.2.2) ∧ (∀ t tr, ts[t]? = some tr → tr.2.1 = brk B t) ∧ (∀ e ∈ B, ∃ t, t < ts.length ∧ e.1 = nI t) ∧
  (∀ t tr, ts[t]? = some tr → ar 21 t = nI tr.2.2.length ∧ ∀ k e, tr.2.2[k]? = some e → ar 22 (10 * t + k) = e.1 ∧ ar 23 (10 * t + k) = e.2)
def bfC (h0 h1 : Dy) (T : Nat → Int32) (k : Nat) : Int32 := if k ≤ (T 6).toNatClampNeg then nI (rol h0 h1 ((T 4).toNatClampNeg + k * (T 5).toNatClampNeg)) else 0
theorem bfC_eq {h0 h1 : Dy} {T : Nat → Int32} {f le n k : Nat} (h4 : T 4 = nI f) (h5 : T 5 = nI le) (h6 : T 6 = nI n) (hf : f < 2 ^ 31) (hl : le < 2 ^ 31) (hn : n < 2 ^ 31) (hk : k ≤ n) : bfC h0 h1 T k = nI (rol h0 h1 (f + k * le)) := by
  unfold bfC
  rw [h4, h5, h6, nI_clamp hf, nI_clamp hl, nI_clamp hn, if_pos hk]
theorem dysIn_mem {h : Dy} (hI : dysIn h) {d : Int32} (hm : d ∈ h.map (·.1)) : ∃ k, k ≤ 3000 ∧ d = nI k := by
  obtain ⟨x, hx, rfl⟩ := List.mem_map.mp hm
  exact hI x hx
theorem dHas_out {h : Dy} (hI : dysIn h) {d : Nat} (h1 : 3000 < d) (h2 : d < 2 ^ 31) : dHas h (nI d) = false := by
  cases c : dHas h (nI d) with
  | false => rfl
  | true =>
    obtain ⟨k, hk, e⟩ := dysIn_mem hI (dHas_iff.mp c)
    have := (nI_eq h2 (by omega)).mp e
    omega
theorem lvL_skip {fx : Dy} (hI : dysIn fx) {a b : Nat} (hab : a ≤ b) (hb : b < 2 ^ 31) (hno : ∀ e, a < e → e ≤ b → e ≤ 3000 → dHas fx (nI e) = false) : ∀ lt v, lvL (nI b) lt v fx = lvL (nI a) lt v fx := by
  have key : ∀ x ∈ fx, (x.1 ≤ nI b ↔ x.1 ≤ nI a) := by
    intro x hx
    obtain ⟨k, hk, e⟩ := hI x hx
    rw [e, nI_leI (by omega) hb, nI_leI (by omega) (by omega)]
    constructor
    · intro h
      rcases Nat.lt_or_ge a k with q | q
      · have := hno k q h hk
        have h2 : dHas fx (nI k) = true := dHas_iff.mpr (List.mem_map.mpr ⟨x, hx, e⟩)
        rw [this] at h2; cases h2
      · exact q
    · intro h; omega
  clear hI hno
  induction fx with
  | nil => intro lt v; rfl
  | cons x xs ih =>
    intro lt v
    have hk := key x List.mem_cons_self
    have ih := ih (fun y hy => key y (List.mem_cons_of_mem _ hy))
    unfold lvL
    by_cases c : x.1 ≤ nI a ∧ lt ≤ x.1
    · rw [if_pos c, if_pos ⟨hk.mpr c.1, c.2⟩]; exact ih _ _
    · rw [if_neg c, if_neg (fun q => c ⟨hk.mp q.1, q.2⟩)]; exact ih _ _
theorem lvL_past {day w : Int32} : ∀ (es : Dy) , (∀ x ∈ es, ¬ x.1 = day) → lvL day day w es = w
  | [], _ => rfl
  | x :: xs, h => by
    unfold lvL
    rw [if_neg (fun q => h x List.mem_cons_self (Int32.le_antisymm q.1 q.2))]
    exact lvL_past xs (fun y hy => h y (List.mem_cons_of_mem _ hy))
theorem lvL_hit {day w : Int32} : ∀ (es : Dy) (lt v : Int32), lt ≤ day → (day, w) ∈ es → (es.map (·.1)).Nodup → lvL day lt v es = w
  | [], _, _, _, h, _ => absurd h List.not_mem_nil
  | x :: xs, lt, v, hlt, hm, hn => by
    unfold lvL
    rw [List.map_cons, List.nodup_cons] at hn
    rcases List.mem_cons.mp hm with e | e
    · subst e
      rw [if_pos ⟨Int32.le_refl _, hlt⟩]
      exact lvL_past xs (fun y hy q => hn.1 (List.mem_map.mpr ⟨y, hy, q⟩))
    · by_cases c : x.1 ≤ day ∧ lt ≤ x.1
      · rw [if_pos c]; exact lvL_hit xs _ _ c.1 e hn.2
      · rw [if_neg c]; exact lvL_hit xs _ _ hlt e hn.2
theorem lvL_none {day : Int32} : ∀ (es : Dy) (lt v : Int32), (∀ x ∈ es, ¬ x.1 ≤ day) → lvL day lt v es = v
  | [], _, _, _ => rfl
  | x :: xs, lt, v, h => by
    unfold lvL
    rw [if_neg (fun q => h x List.mem_cons_self q.1)]
    exact lvL_none xs lt v (fun y hy => h y (List.mem_cons_of_mem _ hy))
theorem brk_mem {t : Nat} {e : Int32 × Int32 × Int32} : ∀ xs : BK, brk (e :: xs) t = if e.1 = nI t then e.2 :: brk xs t else brk xs t := by
  intro xs
  unfold brk
  by_cases c : e.1 = nI t
  · rw [if_pos c, List.filter_cons_of_pos (by simpa using c)]; rfl
  · rw [if_neg c, List.filter_cons_of_neg (by simpa using c)]
theorem brk_app (B C : BK) (t : Nat) : brk (B ++ C) t = brk B t ++ brk C t := by
  unfold brk
  rw [List.filter_append, List.map_append]
end
section
theorem ii_m1 (x : Int32) : x + Int32.ofInt (-1) = x - 1 := by
  rw [Int32.sub_eq_add_neg]
  rfl
theorem lvL_skip1 {fx : Dy} (hI : dysIn fx) {r : Nat} (hr : r + 1 < 2 ^ 31) (h : dHas fx (nI (r + 1)) = false) (lt v : Int32) : lvL (nI (r + 1)) lt v fx = lvL (nI r) lt v fx :=
  lvL_skip hI (a := r) (b := r + 1) (by omega) hr (fun e h1 h2 h3 => by
    have : e = r + 1 := by omega
    rw [this]
    exact h) lt v
def inB (v lo hi : Int32) : Bool := decide (lo ≤ v) && decide (v ≤ hi)
theorem lvL_skip0 {fx : Dy} (hI : dysIn fx) (h : dHas fx (nI 0) = false) (lt v : Int32) : lvL (nI 0) lt v fx = lvL (-1) lt v fx := by
  rw [lvL_none fx lt v, lvL_none fx lt v]
  · intro y hy q
    obtain ⟨k, hk, e⟩ := hI y hy
    rw [e] at q
    exact absurd (Int32.le_trans (nI_pos' (n := k) (by omega)) q) (by decide)
  · intro y hy q
    obtain ⟨k, hk, e⟩ := hI y hy
    rw [e, nI_leI (by omega) (by decide)] at q
    have : k = 0 := by omega
    subst this
    rw [dHas_iff.mpr (List.mem_map.mpr ⟨y, hy, e⟩)] at h
    cases h
set_option maxRecDepth 100000 in
set_option maxHeartbeats 4000000 in
/-- in -/
theorem c_in (E : ET) (v lo hi : Int32) (H : Heap) : PCon E yX5_in cX5_in 3 (some FieldType.boolean) 1 [.int v, .int lo, .int hi] H (some (.int (if inB v lo hi then 1 else 0))) := by
  refine PCon.of (C := RX5) rfl (by decide +kernel) (Nat.le_of_ble_eq_true rfl) ?_
  intro p e s m below meth co ls hx hb hr hlk hml hown hts hE hH hl
  have hl : lv_has ls 3 [(0, .int v), (1, .int lo), (2, .int hi)] := hl
  refine lv_iload_n hx hb dX5_in_0 rfl (lv_at hl 0 rfl) ?_
  refine lv_iload_n hx hb dX5_in_1 rfl (lv_at hl 1 rfl) ?_
  refine lv_icmp_lt (tgt := 14) hx hb dX5_in_2 (by decide) (fun c1 => ?_) (fun c1 => ?_)
  · refine lv_iconst (v := 0) hx hb dX5_in_14 (by decide) ?_
    exact pZ hx hb hr hlk hH (by simp [inB, Int32.not_le.mpr c1]) dX5_in_15
  · refine lv_iload_n hx hb dX5_in_5 rfl (lv_at hl 0 rfl) ?_
    refine lv_iload_n hx hb dX5_in_6 rfl (lv_at hl 2 rfl) ?_
    refine lv_icmp_gt (tgt := 14) hx hb dX5_in_7 (by decide) (fun c2 => ?_) (fun c2 => ?_)
    · refine lv_iconst (v := 0) hx hb dX5_in_14 (by decide) ?_
      exact pZ hx hb hr hlk hH (by simp [inB, Int32.not_le.mpr c2]) dX5_in_15
    · refine lv_iconst (v := 1) hx hb dX5_in_10 (by decide) ?_
      refine lv_goto (tgt := 15) hx hb dX5_in_11 (by decide) ?_
      exact pZ hx hb hr hlk hH (by simp [inB, Int32.not_lt.mp c1, Int32.not_lt.mp c2]) dX5_in_15

set_option maxRecDepth 100000 in
set_option maxHeartbeats 4000000 in
/-- X5_isDay -/
theorem c_isDay (E : ET) (d : Int32) (H : Heap) : PCon E yX5_isDay cX5_isDay 1 (some FieldType.boolean) 2 [.int d] H (some (.int (if inB d 0 3000 then 1 else 0))) := by
  refine PCon.of (C := RX5) rfl (by decide +kernel) (Nat.le_of_ble_eq_true rfl) ?_
  intro p e s m below meth co ls hx hb hr hlk hml hown hts hE hH hl
  have hl : lv_has ls 1 [(0, .int d)] := hl
  refine lv_iload_n hx hb dX5_isDay_0 rfl (lv_at hl 0 rfl) ?_
  refine lv_iconst (v := 0) hx hb dX5_isDay_1 (by decide) ?_
  refine lv_sipush (v := 3000) hx hb dX5_isDay_2 (by decide) ?_
  refine pS hx hb hml hts hown hE kwX5_75 (c_in E d 0 3000 H) (Nat.le_of_ble_eq_true rfl) rfl hl.1 rfl (Nat.le_of_ble_eq_true rfl) (Nat.le_refl _) (Nat.le_refl _) dX5_isDay_5 ?_
  exact pZ hx hb hr hlk hH rfl dX5_isDay_8

set_option maxRecDepth 100000 in
set_option maxHeartbeats 4000000 in
/-- X5_isParty -/
theorem c_isParty (E : ET) (d : Int32) (H : Heap) : PCon E yX5_isParty cX5_isParty 1 (some FieldType.boolean) 2 [.int d] H (some (.int (if inB d 0 3 then 1 else 0))) := by
  refine PCon.of (C := RX5) rfl (by decide +kernel) (Nat.le_of_ble_eq_true rfl) ?_
  intro p e s m below meth co ls hx hb hr hlk hml hown hts hE hH hl
  have hl : lv_has ls 1 [(0, .int d)] := hl
  refine lv_iload_n hx hb dX5_isParty_0 rfl (lv_at hl 0 rfl) ?_
  refine lv_iconst (v := 0) hx hb dX5_isParty_1 (by decide) ?_
  refine lv_iconst (v := 3) hx hb dX5_isParty_2 (by decide) ?_
  refine pS hx hb hml hts hown hE kwX5_75 (c_in E d 0 3 H) (Nat.le_of_ble_eq_true rfl) rfl hl.1 rfl (Nat.le_of_ble_eq_true rfl) (Nat.le_refl _) (Nat.le_refl _) dX5_isParty_3 ?_
  exact pZ hx hb hr hlk hH rfl dX5_isParty_6

set_option maxRecDepth 100000 in
set_option maxHeartbeats 4000000 in
/-- isTrade -/
theorem c_isTrade (E : ET) (x : Nat) (sc : Nat → Int32) (ad : Nat → Nat) (ar : Nat → Nat → Int32) (t : Int32) (H : Heap) (hX : MX E x sc ad ar H)  : PCon E yX5_isTrade cX5_isTrade 2 (some FieldType.boolean) 2 [.ref x, .int t] H (some (.int (if inB t 0 (sc 6 - 1) then 1 else 0))) := by
  refine PCon.of (C := RX5) rfl (by decide +kernel) (Nat.le_of_ble_eq_true rfl) ?_
  intro p e s m below meth co ls hx hb hr hlk hml hown hts hE hH hl
  have hl : lv_has ls 2 [(0, .ref x), (1, .int t)] := hl
  refine lv_iload_n hx hb dX5_isTrade_0 rfl (lv_at hl 1 rfl) ?_
  refine lv_iconst (v := 0) hx hb dX5_isTrade_1 (by decide) ?_
  refine lv_aload_n hx hb dX5_isTrade_2 rfl (lv_at hl 0 rfl) ?_
  refine gf hx hb hts hown hE lkX5_79 hX.1 rfl dX5_isTrade_3 ?_
  refine lv_iconst (v := 1) hx hb dX5_isTrade_6 (by decide) ?_
  refine lv_isub hx hb dX5_isTrade_7 ?_
  refine pS hx hb hml hts hown hE kwX5_75 (c_in E t 0 (sc 6 - 1) H) (Nat.le_of_ble_eq_true rfl) rfl hl.1 rfl (Nat.le_of_ble_eq_true rfl) (Nat.le_refl _) (Nat.le_refl _) dX5_isTrade_8 ?_
  exact pZ hx hb hr hlk hH rfl dX5_isTrade_11

set_option maxRecDepth 100000 in
set_option maxHeartbeats 4000000 in
/-- opens -/
theorem c_opens (E : ET) (x : Nat) (sc : Nat → Int32) (ad : Nat → Nat) (ar : Nat → Nat → Int32) (h0 h1 fx : Dy) (ts : List TR) (B : BK) (d : Nat) (H : Heap) (hX : MX E x sc ad ar H) (hI : MI sc ar h0 h1 fx ts B) (hV : SV h0 h1 fx ts) (hd : d < 2 ^ 31) : PCon E yX5_opens cX5_opens 2 (some FieldType.boolean) 1 [.ref x, .int (nI d)] H (some (.int (if opn h0 h1 d then 1 else 0))) := by
  refine PCon.of (C := RX5) rfl (by decide +kernel) (Nat.le_of_ble_eq_true rfl) ?_
  intro p e s m below meth co ls hx hb hr hlk hml hown hts hE hH hl
  have hl : lv_has ls 2 [(0, .ref x), (1, .int (nI d))] := hl
  have hA1 : ZA E 6002 (ar 1) (ad 1) H := hX.2 1 rfl
  have hr7 : nI d - nI d / 7 * 7 = nI (d % 7) := pk_rem hd (by decide) (by decide)
  refine lv_iload_n hx hb dX5_opens_0 rfl (lv_at hl 1 rfl) ?_
  refine lv_bipush (v := 7) hx hb dX5_opens_1 (by decide) ?_
  refine lv_irem hx hb dX5_opens_3 (by decide) ?_
  rw [hr7]
  refine lv_iconst (v := 5) hx hb dX5_opens_4 (by decide) ?_
  refine lv_icmp_ge (tgt := 41) hx hb dX5_opens_5 (by decide) (fun c => ?_) (fun c => ?_)
  · refine lv_iconst (v := 0) hx hb dX5_opens_41 (by decide) ?_
    exact pZ hx hb hr hlk hH (by rw [opn, decide_eq_false (fun q => absurd ((nI_leI (a := 5) (b := d % 7) (by decide) (by omega)).mp c) (by omega))]; rfl) dX5_opens_42
  · have c5 : d % 7 < 5 := by
      rcases Nat.lt_or_ge (d % 7) 5 with q | q
      · exact q
      · exact absurd ((nI_leI (a := 5) (b := d % 7) (by decide) (by omega)).mpr q) c
    refine lv_iload_n hx hb dX5_opens_8 rfl (lv_at hl 1 rfl) ?_
    refine lv_sipush (v := 3001) hx hb dX5_opens_9 (by decide) ?_
    refine lv_icmp_ge (tgt := 37) hx hb dX5_opens_12 (by decide) (fun c2 => ?_) (fun c2 => ?_)
    · have c3 : 3000 < d := by have := (nI_leI (a := 3001) (b := d) (by decide) hd).mp c2; omega
      refine lv_iconst (v := 1) hx hb dX5_opens_37 (by decide) ?_
      refine lv_goto (tgt := 42) hx hb dX5_opens_38 (by decide) ?_
      exact pZ hx hb hr hlk hH (by simp [opn, c5, dHas_out hV.2.2.1 c3 hd, dHas_out hV.2.2.2.1 c3 hd]) dX5_opens_42
    · have c3 : d ≤ 3000 := by
        rcases Nat.lt_or_ge 3000 d with q | q
        · exact absurd ((nI_leI (a := 3001) (b := d) (by decide) hd).mpr q) c2
        · exact q
      have hh := hI.1 d c3
      refine lv_aload_n hx hb dX5_opens_15 rfl (lv_at hl 0 rfl) ?_
      refine gf hx hb hts hown hE lkX5_7 hX.1 rfl dX5_opens_16 ?_
      refine lv_iload_n hx hb dX5_opens_19 rfl (lv_at hl 1 rfl) ?_
      refine aZ hx hb hE hA1 rfl (by omega) (by omega) hh.1 dX5_opens_20 ?_
      cases x0 : dHas h0 (nI d) with
      | true =>
        refine lv_if_ne (tgt := 41) hx hb dX5_opens_21 (by decide) (fun c4 => ?_) (fun c4 => ?_)
        rotate_left
        · exact absurd c4 (by decide)
        refine lv_iconst (v := 0) hx hb dX5_opens_41 (by decide) ?_
        exact pZ hx hb hr hlk hH (by simp [opn, x0]) dX5_opens_42
      | false =>
        refine lv_if_ne (tgt := 41) hx hb dX5_opens_21 (by decide) (fun c4 => ?_) (fun c4 => ?_)
        · exact absurd (by decide) c4
        refine lv_aload_n hx hb dX5_opens_24 rfl (lv_at hl 0 rfl) ?_
        refine gf hx hb hts hown hE lkX5_7 hX.1 rfl dX5_opens_25 ?_
        refine lv_sipush (v := 3001) hx hb dX5_opens_28 (by decide) ?_
        refine lv_iload_n hx hb dX5_opens_31 rfl (lv_at hl 1 rfl) ?_
        refine lv_iadd hx hb dX5_opens_32 ?_
        rw [show (3001 : Int32) + nI d = nI (3001 + d) from nI_add 3001 d]
        refine aZ hx hb hE hA1 rfl (by omega) (by omega) hh.2 dX5_opens_33 ?_
        cases x1 : dHas h1 (nI d) with
        | true =>
          refine lv_if_ne (tgt := 41) hx hb dX5_opens_34 (by decide) (fun c6 => ?_) (fun c6 => ?_)
          rotate_left
          · exact absurd c6 (by decide)
          refine lv_iconst (v := 0) hx hb dX5_opens_41 (by decide) ?_
          exact pZ hx hb hr hlk hH (by simp [opn, x1]) dX5_opens_42
        | false =>
          refine lv_if_ne (tgt := 41) hx hb dX5_opens_34 (by decide) (fun c6 => ?_) (fun c6 => ?_)
          · exact absurd (by decide) c6
          refine lv_iconst (v := 1) hx hb dX5_opens_37 (by decide) ?_
          refine lv_goto (tgt := 42) hx hb dX5_opens_38 (by decide) ?_
          exact pZ hx hb hr hlk hH (by simp [opn, x0, x1, c5]) dX5_opens_42

set_option maxRecDepth 100000 in
set_option maxHeartbeats 4000000 in
/-- rolled -/
theorem c_rolled (E : ET) (x : Nat) (sc : Nat → Int32) (ad : Nat → Nat) (ar : Nat → Nat → Int32) (h0 h1 fx : Dy) (ts : List TR) (B : BK) (d : Nat) (H : Heap) (hX : MX E x sc ad ar H) (hI : MI sc ar h0 h1 fx ts B) (hV : SV h0 h1 fx ts) (hd : d < 2 ^ 29) : PCon E yX5_rolled cX5_rolled 3 (some FieldType.int) 2 [.ref x, .int (nI d)] H (some (.int (nI (rol h0 h1 d)))) := by
  refine PCon.of (C := RX5) rfl (by decide +kernel) (Nat.le_of_ble_eq_true rfl) ?_
  intro p e s m below meth co ls hx hb hr hlk hml hown hts hE hH hl
  have hl : lv_has ls 3 [(0, .ref x), (1, .int (nI d))] := hl
  have hge := rol_ge h0 h1 d
  have hle := rol_le h0 h1 d
  refine lv_iload_n hx hb dX5_rolled_0 rfl (lv_at hl 1 rfl) ?_
  refine lv_istore_n (lv' := [(2, .int (nI d)), (0, .ref x), (1, .int (nI d))]) hx hb dX5_rolled_1 rfl hl (by decide) rfl (fun ls hl => ?_)
  have loop : ∀ (n r : Nat) (ls : Array Slot), r + n = rol h0 h1 d → rol h0 h1 r = rol h0 h1 d → lv_has ls 3 [(2, .int (nI r)), (0, .ref x), (1, .int (nI d))] → W p (eL E) e (rmk 2 0 0) s m ([.ref x, .int (nI d)]).toArray below meth co H [] 0 0 (MQ below (PQ (some (.int (nI (rol h0 h1 d))))) ([.ref x, .int (nI d)]).toArray s 0 0 (fun _ => False)) (F0 m 2 ls []) := by
    intro n
    induction n with
    | zero =>
      intro r ls hi he hl
      have hi2 : r = rol h0 h1 d := by omega
      have ho : opn h0 h1 r = true := by rw [hi2]; exact opn_rol hV.1 hV.2.1 (by omega)
      refine lv_aload_n hx hb dX5_rolled_2 rfl (lv_at hl 1 rfl) ?_
      refine lv_iload_n hx hb dX5_rolled_3 rfl (lv_at hl 0 rfl) ?_
      refine pV hx hb hml hts hown hE kwX5_86 (c_opens E x sc ad ar h0 h1 fx ts B r H hX hI hV (by omega)) hX.1 rfl (Nat.le_of_ble_eq_true rfl) rfl hl.1 rfl (Nat.le_of_ble_eq_true rfl) (Nat.le_refl _) (Nat.le_refl _) dX5_rolled_4 ?_
      rw [ho]
      refine lv_if_ne (tgt := 16) hx hb dX5_rolled_7 (by decide) (fun c => ?_) (fun c => ?_)
      rotate_left
      · exact absurd c (by decide)
      refine lv_iload_n hx hb dX5_rolled_16 rfl (lv_at hl 0 rfl) ?_
      exact pI hx hb hr hlk hH (by rw [hi2]) dX5_rolled_17
    | succ n ih =>
      intro r ls hi he hl
      refine lv_aload_n hx hb dX5_rolled_2 rfl (lv_at hl 1 rfl) ?_
      refine lv_iload_n hx hb dX5_rolled_3 rfl (lv_at hl 0 rfl) ?_
      refine pV hx hb hml hts hown hE kwX5_86 (c_opens E x sc ad ar h0 h1 fx ts B r H hX hI hV (by omega)) hX.1 rfl (Nat.le_of_ble_eq_true rfl) rfl hl.1 rfl (Nat.le_of_ble_eq_true rfl) (Nat.le_refl _) (Nat.le_refl _) dX5_rolled_4 ?_
      cases ho : opn h0 h1 r with
      | true =>
        have := rol_open ho
        omega
      | false =>
        refine lv_if_ne (tgt := 16) hx hb dX5_rolled_7 (by decide) (fun c => ?_) (fun c => ?_)
        · exact absurd (by decide) c
        refine lv_iinc (v := nI (r + 1)) (lv' := [(2, .int (nI (r + 1))), (0, .ref x), (1, .int (nI d))]) hx hb dX5_rolled_10 hl (k := 0) rfl (nI_1 r) (by decide) rfl (fun ls hl => ?_)
        refine lv_goto (tgt := 2) hx hb dX5_rolled_13 (by decide) ?_
        exact ih (r + 1) ls (by omega) ((rol_next hV.1 hV.2.1 (by omega) ho).trans he) (lv_sub hl [0, 1, 2] rfl)
  exact loop (rol h0 h1 d - d) d ls (by omega) rfl (lv_sub hl [0, 1, 2] rfl)

set_option maxRecDepth 100000 in
set_option maxHeartbeats 4000000 in
/-- rate -/
theorem c_mrate (E : ET) (x : Nat) (sc : Nat → Int32) (ad : Nat → Nat) (ar : Nat → Nat → Int32) (h0 h1 fx : Dy) (ts : List TR) (B : BK) (d : Nat) (H : Heap) (hX : MX E x sc ad ar H) (hI : MI sc ar h0 h1 fx ts B) (hV : SV h0 h1 fx ts) (hd : d < 2 ^ 31) : PCon E yX5_rate cX5_rate 3 (some FieldType.int) 1 [.ref x, .int (nI d)] H (some (.int (dLast fx (nI d) 0))) := by
  refine PCon.of (C := RX5) rfl (by decide +kernel) (Nat.le_of_ble_eq_true rfl) ?_
  intro p e s m below meth co ls hx hb hr hlk hml hown hts hE hH hl
  have hl : lv_has ls 3 [(0, .ref x), (1, .int (nI d))] := hl
  have hA3 : ZA E 3001 (ar 3) (ad 3) H := hX.2 3 rfl
  have hA4 : IA E 3001 (ar 4) (ad 4) H := hX.2 4 rfl
  have hF := hI.2.2.1
  have hdx := hV.2.2.2.2.1
  have hnd := hV.2.2.2.2.2.2.1
  refine lv_iload_n hx hb dX5_rate_0 rfl (lv_at hl 1 rfl) ?_
  refine lv_sipush (v := 3001) hx hb dX5_rate_1 (by decide) ?_
  refine lv_icmp_ge (tgt := 11) hx hb dX5_rate_4 (by decide) (fun c => ?_) (fun c => ?_)
  · have c3 : 3000 < d := by have := (nI_leI (a := 3001) (b := d) (by decide) hd).mp c; omega
    refine lv_sipush (v := 3000) hx hb dX5_rate_11 (by decide) ?_
    refine lv_istore_n (lv' := [(2, .int 3000), (0, .ref x), (1, .int (nI d))]) hx hb dX5_rate_14 rfl hl (by decide) rfl (fun ls hl => ?_)
    have loop : ∀ (r : Nat) (ls : Array Slot), r ≤ 3001 → (∀ lt v, lvL (nI d) lt v fx = lvL (nI r - 1) lt v fx) → lv_has ls 3 [(2, .int (nI r - 1)), (0, .ref x), (1, .int (nI d))] → W p (eL E) e (rmk 1 0 0) s m ([.ref x, .int (nI d)]).toArray below meth co H [] 0 0 (MQ below (PQ (some (.int (dLast fx (nI d) 0)))) ([.ref x, .int (nI d)]).toArray s 0 0 (fun _ => False)) (F0 m 15 ls []) := by
      intro r
      induction r with
      | zero =>
        intro ls hr9 he hl
        have e0 : dLast fx (nI d) 0 = 0 := by
          unfold dLast
          rw [he]
          refine lvL_none fx _ _ (fun y hy => ?_)
          obtain ⟨k, hk, e⟩ := hdx y hy
          rw [e]
          exact Int32.not_le.mpr (Int32.lt_of_lt_of_le (show nI 0 - 1 < 0 by decide) (nI_pos' (by omega)))
        refine lv_iload_n hx hb dX5_rate_15 rfl (lv_at hl 0 rfl) ?_
        refine lv_if_lt (tgt := 34) hx hb dX5_rate_16 (by decide) (fun c8 => ?_) (fun c8 => ?_)
        rotate_left
        · exact absurd (by decide) c8
        refine lv_iload_n hx hb dX5_rate_34 rfl (lv_at hl 0 rfl) ?_
        refine lv_if_ge (tgt := 42) hx hb dX5_rate_35 (by decide) (fun c9 => ?_) (fun c9 => ?_)
        · exact absurd c9 (by decide)
        refine lv_iconst (v := 0) hx hb dX5_rate_38 (by decide) ?_
        refine lv_goto (tgt := 48) hx hb dX5_rate_39 (by decide) ?_
        exact pI hx hb hr hlk hH (by rw [e0]) dX5_rate_48
      | succ r ih =>
        intro ls hr9 he hl
        rw [nI_pred] at he hl
        refine lv_iload_n hx hb dX5_rate_15 rfl (lv_at hl 0 rfl) ?_
        refine lv_if_lt (tgt := 34) hx hb dX5_rate_16 (by decide) (fun c8 => ?_) (fun c8 => ?_)
        · exact absurd c8 (nI_pos (by omega))
        refine lv_aload_n hx hb dX5_rate_19 rfl (lv_at hl 1 rfl) ?_
        refine gf hx hb hts hown hE lkX5_17 hX.1 rfl dX5_rate_20 ?_
        refine lv_iload_n hx hb dX5_rate_23 rfl (lv_at hl 0 rfl) ?_
        refine aZ hx hb hE hA3 rfl (by omega) (by omega) ((hF r (by omega)).1) dX5_rate_24 ?_
        cases hh : dHas fx (nI r) with
        | true =>
          obtain ⟨y, hy, e⟩ := List.mem_map.mp (dHas_iff.mp hh)
          have hy2 : (nI r, y.2) ∈ fx := by rw [← e]; exact hy
          have e0 : dLast fx (nI d) 0 = y.2 := by unfold dLast; rw [he]; exact lvL_hit fx (-1) 0 (Int32.le_of_lt (Int32.lt_of_lt_of_le (show (-1 : Int32) < 0 by decide) (nI_pos' (by omega)))) hy2 hnd
          refine lv_if_ne (tgt := 34) hx hb dX5_rate_25 (by decide) (fun c9 => ?_) (fun c9 => ?_)
          rotate_left
          · exact absurd c9 (by decide)
          refine lv_iload_n hx hb dX5_rate_34 rfl (lv_at hl 0 rfl) ?_
          refine lv_if_ge (tgt := 42) hx hb dX5_rate_35 (by decide) (fun c10 => ?_) (fun c10 => ?_)
          rotate_left
          · exact absurd (nI_pos' (by omega)) c10
          refine lv_aload_n hx hb dX5_rate_42 rfl (lv_at hl 1 rfl) ?_
          refine gf hx hb hts hown hE lkX5_20 hX.1 rfl dX5_rate_43 ?_
          refine lv_iload_n hx hb dX5_rate_46 rfl (lv_at hl 0 rfl) ?_
          refine aI hx hb hE hA4 rfl (by omega) (by omega) ((hF r (by omega)).2 _ hy2) dX5_rate_47 ?_
          exact pI hx hb hr hlk hH (by rw [e0]) dX5_rate_48
        | false =>
          refine lv_if_ne (tgt := 34) hx hb dX5_rate_25 (by decide) (fun c9 => ?_) (fun c9 => ?_)
          · exact absurd (by decide) c9
          refine lv_iinc (v := nI r - 1) (lv' := [(2, .int (nI r - 1)), (0, .ref x), (1, .int (nI d))]) hx hb dX5_rate_28 hl (k := 0) rfl (ii_m1 _) (by decide) rfl (fun ls hl => ?_)
          refine lv_goto (tgt := 15) hx hb dX5_rate_31 (by decide) ?_
          refine ih ls (by omega) (fun lt v => (he lt v).trans ?_) (lv_sub hl [0, 1, 2] rfl)
          cases r with
          | zero =>
            rw [show nI 0 - 1 = -1 by decide]
            exact lvL_skip0 hdx hh lt v
          | succ r =>
            rw [nI_pred]
            exact lvL_skip1 hdx (by omega) hh lt v
    exact loop (3000 + 1) ls (by omega) (by rw [nI_pred]; exact lvL_skip hdx (a := 3000) (b := d) (by omega) hd (fun e h1 h2 h3 => absurd h3 (by omega))) (by rw [nI_pred]; exact (lv_sub hl [0, 1, 2] rfl))
  · have c3 : d ≤ 3000 := by
      rcases Nat.lt_or_ge 3000 d with q | q
      · exact absurd ((nI_leI (a := 3001) (b := d) (by decide) hd).mpr q) c
      · exact q
    refine lv_iload_n hx hb dX5_rate_7 rfl (lv_at hl 1 rfl) ?_
    refine lv_goto (tgt := 14) hx hb dX5_rate_8 (by decide) ?_
    refine lv_istore_n (lv' := [(2, .int (nI d)), (0, .ref x), (1, .int (nI d))]) hx hb dX5_rate_14 rfl hl (by decide) rfl (fun ls hl => ?_)
    have loop : ∀ (r : Nat) (ls : Array Slot), r ≤ 3001 → (∀ lt v, lvL (nI d) lt v fx = lvL (nI r - 1) lt v fx) → lv_has ls 3 [(2, .int (nI r - 1)), (0, .ref x), (1, .int (nI d))] → W p (eL E) e (rmk 1 0 0) s m ([.ref x, .int (nI d)]).toArray below meth co H [] 0 0 (MQ below (PQ (some (.int (dLast fx (nI d) 0)))) ([.ref x, .int (nI d)]).toArray s 0 0 (fun _ => False)) (F0 m 15 ls []) := by
      intro r
      induction r with
      | zero =>
        intro ls hr9 he hl
        have e0 : dLast fx (nI d) 0 = 0 := by
          unfold dLast
          rw [he]
          refine lvL_none fx _ _ (fun y hy => ?_)
          obtain ⟨k, hk, e⟩ := hdx y hy
          rw [e]
          exact Int32.not_le.mpr (Int32.lt_of_lt_of_le (show nI 0 - 1 < 0 by decide) (nI_pos' (by omega)))
        refine lv_iload_n hx hb dX5_rate_15 rfl (lv_at hl 0 rfl) ?_
        refine lv_if_lt (tgt := 34) hx hb dX5_rate_16 (by decide) (fun c8 => ?_) (fun c8 => ?_)
        rotate_left
        · exact absurd (by decide) c8
        refine lv_iload_n hx hb dX5_rate_34 rfl (lv_at hl 0 rfl) ?_
        refine lv_if_ge (tgt := 42) hx hb dX5_rate_35 (by decide) (fun c9 => ?_) (fun c9 => ?_)
        · exact absurd c9 (by decide)
        refine lv_iconst (v := 0) hx hb dX5_rate_38 (by decide) ?_
        refine lv_goto (tgt := 48) hx hb dX5_rate_39 (by decide) ?_
        exact pI hx hb hr hlk hH (by rw [e0]) dX5_rate_48
      | succ r ih =>
        intro ls hr9 he hl
        rw [nI_pred] at he hl
        refine lv_iload_n hx hb dX5_rate_15 rfl (lv_at hl 0 rfl) ?_
        refine lv_if_lt (tgt := 34) hx hb dX5_rate_16 (by decide) (fun c8 => ?_) (fun c8 => ?_)
        · exact absurd c8 (nI_pos (by omega))
        refine lv_aload_n hx hb dX5_rate_19 rfl (lv_at hl 1 rfl) ?_
        refine gf hx hb hts hown hE lkX5_17 hX.1 rfl dX5_rate_20 ?_
        refine lv_iload_n hx hb dX5_rate_23 rfl (lv_at hl 0 rfl) ?_
        refine aZ hx hb hE hA3 rfl (by omega) (by omega) ((hF r (by omega)).1) dX5_rate_24 ?_
        cases hh : dHas fx (nI r) with
        | true =>
          obtain ⟨y, hy, e⟩ := List.mem_map.mp (dHas_iff.mp hh)
          have hy2 : (nI r, y.2) ∈ fx := by rw [← e]; exact hy
          have e0 : dLast fx (nI d) 0 = y.2 := by unfold dLast; rw [he]; exact lvL_hit fx (-1) 0 (Int32.le_of_lt (Int32.lt_of_lt_of_le (show (-1 : Int32) < 0 by decide) (nI_pos' (by omega)))) hy2 hnd
          refine lv_if_ne (tgt := 34) hx hb dX5_rate_25 (by decide) (fun c9 => ?_) (fun c9 => ?_)
          rotate_left
          · exact absurd c9 (by decide)
          refine lv_iload_n hx hb dX5_rate_34 rfl (lv_at hl 0 rfl) ?_
          refine lv_if_ge (tgt := 42) hx hb dX5_rate_35 (by decide) (fun c10 => ?_) (fun c10 => ?_)
          rotate_left
          · exact absurd (nI_pos' (by omega)) c10
          refine lv_aload_n hx hb dX5_rate_42 rfl (lv_at hl 1 rfl) ?_
          refine gf hx hb hts hown hE lkX5_20 hX.1 rfl dX5_rate_43 ?_
          refine lv_iload_n hx hb dX5_rate_46 rfl (lv_at hl 0 rfl) ?_
          refine aI hx hb hE hA4 rfl (by omega) (by omega) ((hF r (by omega)).2 _ hy2) dX5_rate_47 ?_
          exact pI hx hb hr hlk hH (by rw [e0]) dX5_rate_48
        | false =>
          refine lv_if_ne (tgt := 34) hx hb dX5_rate_25 (by decide) (fun c9 => ?_) (fun c9 => ?_)
          · exact absurd (by decide) c9
          refine lv_iinc (v := nI r - 1) (lv' := [(2, .int (nI r - 1)), (0, .ref x), (1, .int (nI d))]) hx hb dX5_rate_28 hl (k := 0) rfl (ii_m1 _) (by decide) rfl (fun ls hl => ?_)
          refine lv_goto (tgt := 15) hx hb dX5_rate_31 (by decide) ?_
          refine ih ls (by omega) (fun lt v => (he lt v).trans ?_) (lv_sub hl [0, 1, 2] rfl)
          cases r with
          | zero =>
            rw [show nI 0 - 1 = -1 by decide]
            exact lvL_skip0 hdx hh lt v
          | succ r =>
            rw [nI_pred]
            exact lvL_skip1 hdx (by omega) hh lt v
    exact loop (d + 1) ls (by omega) (by rw [nI_pred]; exact fun lt v => rfl) (by rw [nI_pred]; exact (lv_sub hl [0, 1, 2] rfl))
end
section
theorem dSum_31 {bs : Dy} (h : dysIn bs) : dSum bs 3001 = dSum bs 3000 := by
  unfold dSum
  generalize (0 : Int32) = v
  induction bs generalizing v with
  | nil => rfl
  | cons x xs ih =>
    have ih := ih (fun y hy => h y (List.mem_cons_of_mem _ hy))
    obtain ⟨d, hd, e⟩ := h x List.mem_cons_self
    have h1 : x.1 ≤ 3001 := by rw [e]; exact (nI_leI (a := d) (b := 3001) (by omega) (by decide)).mpr (by omega)
    have h2 : x.1 ≤ 3000 := by rw [e]; exact (nI_leI (a := d) (b := 3000) (by omega) (by decide)).mpr (by omega)
    unfold smL
    rw [if_pos h1, if_pos h2]
    exact ih _
def dysI (T : Nat → Int32) (bf : Nat → Int32) (k : Nat) : Int32 := if T 8 = 0 then bf (k + 1) - bf k else T 5
theorem dysI_l (T : Nat → Int32) (bf : Nat → Int32) (k : Nat) : (dysI T bf k).toInt64 = dys T bf k := by
  unfold dysI dys
  by_cases c : T 8 = 0
  · rw [if_pos c, if_pos c]
  · rw [if_neg c, if_neg c]
set_option maxRecDepth 100000 in
set_option maxHeartbeats 4000000 in
/-- broken -/
theorem c_broken (E : ET) (x : Nat) (sc : Nat → Int32) (ad : Nat → Nat) (ar : Nat → Nat → Int32) (h0 h1 fx : Dy) (ts : List TR) (B : BK) (t : Nat) (up : Int32) (H : Heap) (hX : MX E x sc ad ar H) (hI : MI sc ar h0 h1 fx ts B) (hV : SV h0 h1 fx ts) (ht : t < 10) : PCon E yX5_broken cX5_broken 5 (some FieldType.int) 1 [.ref x, .int (nI t), .int up] H (some (.int (dSum (brk B t) up))) := by
  refine PCon.of (C := RX5) rfl (by decide +kernel) (Nat.le_of_ble_eq_true rfl) ?_
  intro p e s m below meth co ls hx hb hr hlk hml hown hts hE hH hl
  have hl : lv_has ls 5 [(0, .ref x), (1, .int (nI t)), (2, .int up)] := hl
  have hA18 : IA E 10000 (ar 18) (ad 18) H := hX.2 18 rfl
  have hA19 : IA E 10000 (ar 19) (ad 19) H := hX.2 19 rfl
  have hA20 : IA E 10000 (ar 20) (ad 20) H := hX.2 20 rfl
  have hB := hI.2.2.2.2.2.2.2.1
  have hR := hI.2.2.2.2.2.2.2.2.1
  have hQ := hI.2.2.2.2.2.2.2.2.2.2.1
  have htn := hV.2.2.2.2.2.2.2.1
  refine lv_iconst (v := 0) hx hb dX5_broken_0 (by decide) ?_
  refine lv_istore_n (lv' := [(3, .int 0), (0, .ref x), (1, .int (nI t)), (2, .int up)]) hx hb dX5_broken_1 rfl hl (by decide) rfl (fun ls hl => ?_)
  refine lv_iconst (v := 0) hx hb dX5_broken_2 (by decide) ?_
  refine lv_istore (lv' := [(4, .int 0), (3, .int 0), (0, .ref x), (1, .int (nI t)), (2, .int up)]) hx hb dX5_broken_3 hl (by decide) rfl (fun ls hl => ?_)
  have loop : ∀ (xs : BK) (i : Nat) (v : Int32) (ls : Array Slot), B.drop i = xs → i ≤ B.length → dSum (brk B t) up = smL up v (brk xs t) → lv_has ls 5 [(4, .int (nI i)), (3, .int v), (0, .ref x), (1, .int (nI t)), (2, .int up)] → W p (eL E) e (rmk 1 0 0) s m ([.ref x, .int (nI t), .int up]).toArray below meth co H [] 0 0 (MQ below (PQ (some (.int (dSum (brk B t) up)))) ([.ref x, .int (nI t), .int up]).toArray s 0 0 (fun _ => False)) (F0 m 5 ls []) := by
    intro xs
    induction xs with
    | nil =>
      intro i v ls hd hi he hl
      have hi2 := drop_n hd hi
      refine lv_iload hx hb dX5_broken_5 (lv_at hl 0 rfl) ?_
      refine lv_aload_n hx hb dX5_broken_7 rfl (lv_at hl 2 rfl) ?_
      refine gf hx hb hts hown hE lkX5_108 hX.1 rfl dX5_broken_8 ?_
      refine lv_icmp_ge (tgt := 56) hx hb dX5_broken_11 (by decide) (fun c => ?_) (fun c => ?_)
      rotate_left
      · exact absurd (by rw [hB.1]; exact nI_le (by omega) (by omega)) c
      refine lv_iload_n hx hb dX5_broken_56 rfl (lv_at hl 1 rfl) ?_
      exact pI hx hb hr hlk hH (by rw [he]; rfl) dX5_broken_57
    | cons y xs ih =>
      intro i v ls hd hi he hl
      obtain ⟨hy, hlt, hd2⟩ := drop_c hd
      have hr9 := hR i y hy
      obtain ⟨u, hu, eu⟩ := hQ y (List.mem_of_getElem? hy)
      rw [brk_mem] at he
      refine lv_iload hx hb dX5_broken_5 (lv_at hl 0 rfl) ?_
      refine lv_aload_n hx hb dX5_broken_7 rfl (lv_at hl 2 rfl) ?_
      refine gf hx hb hts hown hE lkX5_108 hX.1 rfl dX5_broken_8 ?_
      refine lv_icmp_ge (tgt := 56) hx hb dX5_broken_11 (by decide) (fun c => ?_) (fun c => ?_)
      · exact absurd c (by rw [hB.1]; exact nI_ge hlt (by omega))
      refine lv_iload_n hx hb dX5_broken_14 rfl (lv_at hl 1 rfl) ?_
      refine lv_aload_n hx hb dX5_broken_15 rfl (lv_at hl 2 rfl) ?_
      refine gf hx hb hts hown hE lkX5_53 hX.1 rfl dX5_broken_16 ?_
      refine lv_iload hx hb dX5_broken_19 (lv_at hl 0 rfl) ?_
      refine aI hx hb hE hA18 rfl (by omega) (by omega) hr9.1 dX5_broken_21 ?_
      refine lv_iload_n hx hb dX5_broken_22 rfl (lv_at hl 3 rfl) ?_
      refine lv_icmp_ne (tgt := 47) hx hb dX5_broken_23 (by decide) (fun c1 => ?_) (fun c1 => ?_)
      · refine lv_iconst (v := 0) hx hb dX5_broken_47 (by decide) ?_
        refine lv_iadd hx hb dX5_broken_48 ?_
        refine lv_istore_n (lv' := [(3, .int (v + 0)), (4, .int (nI i)), (0, .ref x), (1, .int (nI t)), (2, .int up)]) hx hb dX5_broken_49 rfl hl (by decide) rfl (fun ls hl => ?_)
        refine lv_iinc (v := nI (i + 1)) (lv' := [(4, .int (nI (i + 1))), (3, .int (v + 0)), (0, .ref x), (1, .int (nI t)), (2, .int up)]) hx hb dX5_broken_50 hl (k := 1) rfl (nI_1 i) (by decide) rfl (fun ls hl => ?_)
        refine lv_goto (tgt := 5) hx hb dX5_broken_53 (by decide) ?_
        exact ih (i + 1) (v + 0) ls hd2 (by omega) (he.trans (by rw [if_neg c1, Int32.add_zero])) (lv_sub hl [0, 1, 2, 3, 4] rfl)
      · refine lv_aload_n hx hb dX5_broken_26 rfl (lv_at hl 2 rfl) ?_
        refine gf hx hb hts hown hE lkX5_56 hX.1 rfl dX5_broken_27 ?_
        refine lv_iload hx hb dX5_broken_30 (lv_at hl 0 rfl) ?_
        refine aI hx hb hE hA19 rfl (by omega) (by omega) hr9.2.1 dX5_broken_32 ?_
        refine lv_iload_n hx hb dX5_broken_33 rfl (lv_at hl 4 rfl) ?_
        refine lv_icmp_gt (tgt := 47) hx hb dX5_broken_34 (by decide) (fun c2 => ?_) (fun c2 => ?_)
        · refine lv_iconst (v := 0) hx hb dX5_broken_47 (by decide) ?_
          refine lv_iadd hx hb dX5_broken_48 ?_
          refine lv_istore_n (lv' := [(3, .int (v + 0)), (4, .int (nI i)), (0, .ref x), (1, .int (nI t)), (2, .int up)]) hx hb dX5_broken_49 rfl hl (by decide) rfl (fun ls hl => ?_)
          refine lv_iinc (v := nI (i + 1)) (lv' := [(4, .int (nI (i + 1))), (3, .int (v + 0)), (0, .ref x), (1, .int (nI t)), (2, .int up)]) hx hb dX5_broken_50 hl (k := 1) rfl (nI_1 i) (by decide) rfl (fun ls hl => ?_)
          refine lv_goto (tgt := 5) hx hb dX5_broken_53 (by decide) ?_
          exact ih (i + 1) (v + 0) ls hd2 (by omega) (he.trans (by rw [if_pos c1, Int32.add_zero]; simp only [smL]; rw [if_neg (Int32.not_le.mpr c2)])) (lv_sub hl [0, 1, 2, 3, 4] rfl)
        · refine lv_aload_n hx hb dX5_broken_37 rfl (lv_at hl 2 rfl) ?_
          refine gf hx hb hts hown hE lkX5_59 hX.1 rfl dX5_broken_38 ?_
          refine lv_iload hx hb dX5_broken_41 (lv_at hl 0 rfl) ?_
          refine aI hx hb hE hA20 rfl (by omega) (by omega) hr9.2.2 dX5_broken_43 ?_
          refine lv_goto (tgt := 48) hx hb dX5_broken_44 (by decide) ?_
          refine lv_iadd hx hb dX5_broken_48 ?_
          refine lv_istore_n (lv' := [(3, .int (v + y.2.2)), (4, .int (nI i)), (0, .ref x), (1, .int (nI t)), (2, .int up)]) hx hb dX5_broken_49 rfl hl (by decide) rfl (fun ls hl => ?_)
          refine lv_iinc (v := nI (i + 1)) (lv' := [(4, .int (nI (i + 1))), (3, .int (v + y.2.2)), (0, .ref x), (1, .int (nI t)), (2, .int up)]) hx hb dX5_broken_50 hl (k := 1) rfl (nI_1 i) (by decide) rfl (fun ls hl => ?_)
          refine lv_goto (tgt := 5) hx hb dX5_broken_53 (by decide) ?_
          exact ih (i + 1) (v + y.2.2) ls hd2 (by omega) (he.trans (by rw [if_pos c1]; simp only [smL]; rw [if_pos (Int32.not_lt.mp c2)])) (lv_sub hl [0, 1, 2, 3, 4] rfl)
  exact loop B 0 0 ls rfl (Nat.zero_le _) rfl (lv_sub hl [0, 1, 2, 3, 4] rfl)

set_option maxRecDepth 100000 in
set_option maxHeartbeats 4000000 in
/-- rest -/
theorem c_mrest (E : ET) (x : Nat) (sc : Nat → Int32) (ad : Nat → Nat) (ar : Nat → Nat → Int32) (h0 h1 fx : Dy) (ts : List TR) (B : BK) (t : Nat) (tr : TR) (H : Heap) (hX : MX E x sc ad ar H) (hI : MI sc ar h0 h1 fx ts B) (hV : SV h0 h1 fx ts) (ht : ts[t]? = some tr) : PCon E yX5_rest cX5_rest 2 (some FieldType.int) 2 [.ref x, .int (nI t)] H (some (.int (rstS tr.1 tr.2.1))) := by
  refine PCon.of (C := RX5) rfl (by decide +kernel) (Nat.le_of_ble_eq_true rfl) ?_
  intro p e s m below meth co ls hx hb hr hlk hml hown hts hE hH hl
  have hl : lv_has ls 2 [(0, .ref x), (1, .int (nI t))] := hl
  have hA8 : IA E 10 (ar 8) (ad 8) H := hX.2 8 rfl
  have htl : t < 10 := by
    have := (List.getElem?_eq_some_iff.mp ht).1
    have := hV.2.2.2.2.2.2.2.1
    omega
  obtain ⟨pa, lo, f, le, n, v1, v2, v3, v4, v5, v6, v7, v8, t0, t1, t2, t4, t5, t6, t8, t9, tb, th⟩ := hV.2.2.2.2.2.2.2.2 tr (List.mem_of_getElem? ht)
  have hF : ∀ j, j < 10 → ar (7 + j) t = tr.1 j := hI.2.2.2.2.2.1 t tr ht
  have hb9 := hI.2.2.2.2.2.2.2.2.2.1 t tr ht
  refine lv_aload_n hx hb dX5_rest_0 rfl (lv_at hl 0 rfl) ?_
  refine gf hx hb hts hown hE lkX5_26 hX.1 rfl dX5_rest_1 ?_
  refine lv_iload_n hx hb dX5_rest_4 rfl (lv_at hl 1 rfl) ?_
  refine aI hx hb hE hA8 rfl htl (by omega) (hF 1 (by omega)) dX5_rest_5 ?_
  refine lv_aload_n hx hb dX5_rest_6 rfl (lv_at hl 0 rfl) ?_
  refine lv_iload_n hx hb dX5_rest_7 rfl (lv_at hl 1 rfl) ?_
  refine lv_sipush (v := 3001) hx hb dX5_rest_8 (by decide) ?_
  refine pV hx hb hml hts hown hE kwX5_111 (c_broken E x sc ad ar h0 h1 fx ts B t 3001 H hX hI hV htl) hX.1 rfl (Nat.le_of_ble_eq_true rfl) rfl hl.1 rfl (Nat.le_of_ble_eq_true rfl) (Nat.le_refl _) (Nat.le_refl _) dX5_rest_11 ?_
  refine lv_isub hx hb dX5_rest_14 ?_
  exact pI hx hb hr hlk hH (by rw [← hb9]; unfold rstS; rw [dSum_31 tb]) dX5_rest_15

set_option maxRecDepth 100000 in
set_option maxHeartbeats 4000000 in
/-- countBreaks -/
theorem c_mcount (E : ET) (x : Nat) (sc : Nat → Int32) (ad : Nat → Nat) (ar : Nat → Nat → Int32) (h0 h1 fx : Dy) (ts : List TR) (B : BK) (t : Nat) (H : Heap) (hX : MX E x sc ad ar H) (hI : MI sc ar h0 h1 fx ts B) (hV : SV h0 h1 fx ts) (ht : t < 10) : PCon E yX5_countBreaks cX5_countBreaks 4 (some FieldType.int) 1 [.ref x, .int (nI t)] H (some (.int (nI (brk B t).length))) := by
  refine PCon.of (C := RX5) rfl (by decide +kernel) (Nat.le_of_ble_eq_true rfl) ?_
  intro p e s m below meth co ls hx hb hr hlk hml hown hts hE hH hl
  have hl : lv_has ls 4 [(0, .ref x), (1, .int (nI t))] := hl
  have hA18 : IA E 10000 (ar 18) (ad 18) H := hX.2 18 rfl
  have hB := hI.2.2.2.2.2.2.2.1
  have hR := hI.2.2.2.2.2.2.2.2.1
  refine lv_iconst (v := 0) hx hb dX5_countBreaks_0 (by decide) ?_
  refine lv_istore_n (lv' := [(2, .int 0), (0, .ref x), (1, .int (nI t))]) hx hb dX5_countBreaks_1 rfl hl (by decide) rfl (fun ls hl => ?_)
  refine lv_iconst (v := 0) hx hb dX5_countBreaks_2 (by decide) ?_
  refine lv_istore_n (lv' := [(3, .int 0), (2, .int 0), (0, .ref x), (1, .int (nI t))]) hx hb dX5_countBreaks_3 rfl hl (by decide) rfl (fun ls hl => ?_)
  have loop : ∀ (xs : BK) (i v : Nat) (ls : Array Slot), B.drop i = xs → i ≤ B.length → (brk B t).length = v + (brk xs t).length → lv_has ls 4 [(3, .int (nI i)), (2, .int (nI v)), (0, .ref x), (1, .int (nI t))] → W p (eL E) e (rmk 1 0 0) s m ([.ref x, .int (nI t)]).toArray below meth co H [] 0 0 (MQ below (PQ (some (.int (nI (brk B t).length)))) ([.ref x, .int (nI t)]).toArray s 0 0 (fun _ => False)) (F0 m 4 ls []) := by
    intro xs
    induction xs with
    | nil =>
      intro i v ls hd hi he hl
      have hi2 := drop_n hd hi
      refine lv_iload_n hx hb dX5_countBreaks_4 rfl (lv_at hl 0 rfl) ?_
      refine lv_aload_n hx hb dX5_countBreaks_5 rfl (lv_at hl 2 rfl) ?_
      refine gf hx hb hts hown hE lkX5_108 hX.1 rfl dX5_countBreaks_6 ?_
      refine lv_icmp_ge (tgt := 36) hx hb dX5_countBreaks_9 (by decide) (fun c => ?_) (fun c => ?_)
      rotate_left
      · exact absurd (by rw [hB.1]; exact nI_le (by omega) (by omega)) c
      refine lv_iload_n hx hb dX5_countBreaks_36 rfl (lv_at hl 1 rfl) ?_
      exact pI hx hb hr hlk hH (by rw [he]; rfl) dX5_countBreaks_37
    | cons y xs ih =>
      intro i v ls hd hi he hl
      obtain ⟨hy, hlt, hd2⟩ := drop_c hd
      have hr9 := hR i y hy
      rw [brk_mem] at he
      refine lv_iload_n hx hb dX5_countBreaks_4 rfl (lv_at hl 0 rfl) ?_
      refine lv_aload_n hx hb dX5_countBreaks_5 rfl (lv_at hl 2 rfl) ?_
      refine gf hx hb hts hown hE lkX5_108 hX.1 rfl dX5_countBreaks_6 ?_
      refine lv_icmp_ge (tgt := 36) hx hb dX5_countBreaks_9 (by decide) (fun c => ?_) (fun c => ?_)
      · exact absurd c (by rw [hB.1]; exact nI_ge hlt (by omega))
      refine lv_iload_n hx hb dX5_countBreaks_12 rfl (lv_at hl 1 rfl) ?_
      refine lv_aload_n hx hb dX5_countBreaks_13 rfl (lv_at hl 2 rfl) ?_
      refine gf hx hb hts hown hE lkX5_53 hX.1 rfl dX5_countBreaks_14 ?_
      refine lv_iload_n hx hb dX5_countBreaks_17 rfl (lv_at hl 0 rfl) ?_
      refine aI hx hb hE hA18 rfl (by omega) (by omega) hr9.1 dX5_countBreaks_18 ?_
      refine lv_iload_n hx hb dX5_countBreaks_19 rfl (lv_at hl 3 rfl) ?_
      refine lv_icmp_ne (tgt := 27) hx hb dX5_countBreaks_20 (by decide) (fun c1 => ?_) (fun c1 => ?_)
      · refine lv_iconst (v := 0) hx hb dX5_countBreaks_27 (by decide) ?_
        refine lv_iadd hx hb dX5_countBreaks_28 ?_
        rw [show nI v + 0 = nI v from Int32.add_zero _]
        refine lv_istore_n (lv' := [(2, .int (nI v)), (3, .int (nI i)), (0, .ref x), (1, .int (nI t))]) hx hb dX5_countBreaks_29 rfl hl (by decide) rfl (fun ls hl => ?_)
        refine lv_iinc (v := nI (i + 1)) (lv' := [(3, .int (nI (i + 1))), (2, .int (nI v)), (0, .ref x), (1, .int (nI t))]) hx hb dX5_countBreaks_30 hl (k := 1) rfl (nI_1 i) (by decide) rfl (fun ls hl => ?_)
        refine lv_goto (tgt := 4) hx hb dX5_countBreaks_33 (by decide) ?_
        exact ih (i + 1) v ls hd2 (by omega) (by rw [he, if_neg c1]) (lv_sub hl [0, 1, 2, 3] rfl)
      · refine lv_iconst (v := 1) hx hb dX5_countBreaks_23 (by decide) ?_
        refine lv_goto (tgt := 28) hx hb dX5_countBreaks_24 (by decide) ?_
        refine lv_iadd hx hb dX5_countBreaks_28 ?_
        rw [show nI v + 1 = nI (v + 1) from nI_1 v]
        refine lv_istore_n (lv' := [(2, .int (nI (v + 1))), (3, .int (nI i)), (0, .ref x), (1, .int (nI t))]) hx hb dX5_countBreaks_29 rfl hl (by decide) rfl (fun ls hl => ?_)
        refine lv_iinc (v := nI (i + 1)) (lv' := [(3, .int (nI (i + 1))), (2, .int (nI (v + 1))), (0, .ref x), (1, .int (nI t))]) hx hb dX5_countBreaks_30 hl (k := 1) rfl (nI_1 i) (by decide) rfl (fun ls hl => ?_)
        refine lv_goto (tgt := 4) hx hb dX5_countBreaks_33 (by decide) ?_
        exact ih (i + 1) (v + 1) ls hd2 (by omega) (by rw [he, if_pos c1, List.length_cons]; omega) (lv_sub hl [0, 1, 2, 3] rfl)
  exact loop B 0 0 ls rfl (Nat.zero_le _) (by rw [Nat.zero_add]) (lv_sub hl [0, 1, 2, 3] rfl)

set_option maxRecDepth 100000 in
set_option maxHeartbeats 4000000 in
/-- party -/
theorem c_mparty (E : ET) (x : Nat) (sc : Nat → Int32) (ad : Nat → Nat) (ar : Nat → Nat → Int32) (h0 h1 fx : Dy) (ts : List TR) (B : BK) (t : Nat) (tr : TR) (day : Int32) (H : Heap) (hX : MX E x sc ad ar H) (hI : MI sc ar h0 h1 fx ts B) (hV : SV h0 h1 fx ts) (ht : ts[t]? = some tr) : PCon E yX5_party cX5_party 7 (some FieldType.int) 1 [.ref x, .int (nI t), .int day] H (some (.int (hldS tr.1 tr.2.2 day))) := by
  refine PCon.of (C := RX5) rfl (by decide +kernel) (Nat.le_of_ble_eq_true rfl) ?_
  intro p e s m below meth co ls hx hb hr hlk hml hown hts hE hH hl
  have hl : lv_has ls 7 [(0, .ref x), (1, .int (nI t)), (2, .int day)] := hl
  have hA7 : IA E 10 (ar 7) (ad 7) H := hX.2 7 rfl
  have hA21 : IA E 10 (ar 21) (ad 21) H := hX.2 21 rfl
  have hA22 : IA E 100 (ar 22) (ad 22) H := hX.2 22 rfl
  have hA23 : IA E 100 (ar 23) (ad 23) H := hX.2 23 rfl
  have htl : t < 10 := by
    have := (List.getElem?_eq_some_iff.mp ht).1
    have := hV.2.2.2.2.2.2.2.1
    omega
  obtain ⟨pa, lo, f, le, n, v1, v2, v3, v4, v5, v6, v7, v8, t0, t1, t2, t4, t5, t6, t8, t9, tb, th⟩ := hV.2.2.2.2.2.2.2.2 tr (List.mem_of_getElem? ht)
  have hF : ∀ j, j < 10 → ar (7 + j) t = tr.1 j := hI.2.2.2.2.2.1 t tr ht
  obtain ⟨hhm, hhk⟩ := hI.2.2.2.2.2.2.2.2.2.2.2 t tr ht
  refine lv_aload_n hx hb dX5_party_0 rfl (lv_at hl 0 rfl) ?_
  refine gf hx hb hts hown hE lkX5_23 hX.1 rfl dX5_party_1 ?_
  refine lv_iload_n hx hb dX5_party_4 rfl (lv_at hl 1 rfl) ?_
  refine aI hx hb hE hA7 rfl htl (by omega) (hF 0 (by omega)) dX5_party_5 ?_
  refine lv_istore_n (lv' := [(3, .int (tr.1 0)), (0, .ref x), (1, .int (nI t)), (2, .int day)]) hx hb dX5_party_6 rfl hl (by decide) rfl (fun ls hl => ?_)
  refine lv_iconst (v := (-1)) hx hb dX5_party_7 (by decide) ?_
  refine lv_istore (lv' := [(4, .int (-1)), (3, .int (tr.1 0)), (0, .ref x), (1, .int (nI t)), (2, .int day)]) hx hb dX5_party_8 hl (by decide) rfl (fun ls hl => ?_)
  refine lv_iconst (v := 0) hx hb dX5_party_10 (by decide) ?_
  refine lv_istore (lv' := [(5, .int 0), (4, .int (-1)), (3, .int (tr.1 0)), (0, .ref x), (1, .int (nI t)), (2, .int day)]) hx hb dX5_party_11 hl (by decide) rfl (fun ls hl => ?_)
  have loop : ∀ (xs : Dy) (i : Nat) (lt v : Int32) (ls : Array Slot), tr.2.2.drop i = xs → i ≤ tr.2.2.length → hldS tr.1 tr.2.2 day = lvL day lt v xs → lv_has ls 7 [(5, .int (nI i)), (4, .int lt), (3, .int v), (0, .ref x), (1, .int (nI t)), (2, .int day)] → W p (eL E) e (rmk 1 0 0) s m ([.ref x, .int (nI t), .int day]).toArray below meth co H [] 0 0 (MQ below (PQ (some (.int (hldS tr.1 tr.2.2 day)))) ([.ref x, .int (nI t), .int day]).toArray s 0 0 (fun _ => False)) (F0 m 13 ls []) := by
    intro xs
    induction xs with
    | nil =>
      intro i lt v ls hd hi he hl
      have hi2 := drop_n hd hi
      refine lv_iload hx hb dX5_party_13 (lv_at hl 0 rfl) ?_
      refine lv_aload_n hx hb dX5_party_15 rfl (lv_at hl 3 rfl) ?_
      refine gf hx hb hts hown hE lkX5_62 hX.1 rfl dX5_party_16 ?_
      refine lv_iload_n hx hb dX5_party_19 rfl (lv_at hl 4 rfl) ?_
      refine aI hx hb hE hA21 rfl htl (by omega) hhm dX5_party_20 ?_
      refine lv_icmp_ge (tgt := 74) hx hb dX5_party_21 (by decide) (fun c => ?_) (fun c => ?_)
      rotate_left
      · exact absurd (nI_le (by omega) (by omega)) c
      refine lv_iload_n hx hb dX5_party_74 rfl (lv_at hl 2 rfl) ?_
      exact pI hx hb hr hlk hH (by rw [he]; rfl) dX5_party_75
    | cons y xs ih =>
      intro i lt v ls hd hi he hl
      obtain ⟨hy, hlt, hd2⟩ := drop_c hd
      have hr9 := hhk i y hy
      have ei : (10 : Int32) * nI t + nI i = nI (10 * t + i) := by rw [show (10 : Int32) = nI 10 from rfl, pk_mul, nI_add]
      refine lv_iload hx hb dX5_party_13 (lv_at hl 0 rfl) ?_
      refine lv_aload_n hx hb dX5_party_15 rfl (lv_at hl 3 rfl) ?_
      refine gf hx hb hts hown hE lkX5_62 hX.1 rfl dX5_party_16 ?_
      refine lv_iload_n hx hb dX5_party_19 rfl (lv_at hl 4 rfl) ?_
      refine aI hx hb hE hA21 rfl htl (by omega) hhm dX5_party_20 ?_
      refine lv_icmp_ge (tgt := 74) hx hb dX5_party_21 (by decide) (fun c => ?_) (fun c => ?_)
      · exact absurd c (nI_ge hlt (by omega))
      refine lv_aload_n hx hb dX5_party_24 rfl (lv_at hl 3 rfl) ?_
      refine gf hx hb hts hown hE lkX5_65 hX.1 rfl dX5_party_25 ?_
      refine lv_bipush (v := 10) hx hb dX5_party_28 (by decide) ?_
      refine lv_iload_n hx hb dX5_party_30 rfl (lv_at hl 4 rfl) ?_
      refine lv_imul hx hb dX5_party_31 ?_
      refine lv_iload hx hb dX5_party_32 (lv_at hl 0 rfl) ?_
      refine lv_iadd hx hb dX5_party_34 ?_
      refine aI hx hb hE hA22 ei (by omega) (by omega) hr9.1 dX5_party_35 ?_
      refine lv_istore (lv' := [(6, .int y.1), (5, .int (nI i)), (4, .int lt), (3, .int v), (0, .ref x), (1, .int (nI t)), (2, .int day)]) hx hb dX5_party_36 hl (by decide) rfl (fun ls hl => ?_)
      refine lv_iload hx hb dX5_party_38 (lv_at hl 0 rfl) ?_
      refine lv_iload_n hx hb dX5_party_40 rfl (lv_at hl 6 rfl) ?_
      refine lv_icmp_gt (tgt := 68) hx hb dX5_party_41 (by decide) (fun c1 => ?_) (fun c1 => ?_)
      · refine lv_iinc (v := nI (i + 1)) (lv' := [(5, .int (nI (i + 1))), (6, .int y.1), (4, .int lt), (3, .int v), (0, .ref x), (1, .int (nI t)), (2, .int day)]) hx hb dX5_party_68 hl (k := 1) rfl (nI_1 i) (by decide) rfl (fun ls hl => ?_)
        refine lv_goto (tgt := 13) hx hb dX5_party_71 (by decide) ?_
        exact ih (i + 1) lt v ls hd2 (by omega) (he.trans (by simp only [lvL]; rw [if_neg (fun q => absurd q.1 (Int32.not_le.mpr c1))])) (lv_sub hl [0, 2, 3, 4, 5, 6] rfl)
      · refine lv_iload hx hb dX5_party_44 (lv_at hl 0 rfl) ?_
        refine lv_iload hx hb dX5_party_46 (lv_at hl 2 rfl) ?_
        refine lv_icmp_lt (tgt := 68) hx hb dX5_party_48 (by decide) (fun c2 => ?_) (fun c2 => ?_)
        · refine lv_iinc (v := nI (i + 1)) (lv' := [(5, .int (nI (i + 1))), (6, .int y.1), (4, .int lt), (3, .int v), (0, .ref x), (1, .int (nI t)), (2, .int day)]) hx hb dX5_party_68 hl (k := 1) rfl (nI_1 i) (by decide) rfl (fun ls hl => ?_)
          refine lv_goto (tgt := 13) hx hb dX5_party_71 (by decide) ?_
          exact ih (i + 1) lt v ls hd2 (by omega) (he.trans (by simp only [lvL]; rw [if_neg (fun q => absurd q.2 (Int32.not_le.mpr c2))])) (lv_sub hl [0, 2, 3, 4, 5, 6] rfl)
        · refine lv_aload_n hx hb dX5_party_51 rfl (lv_at hl 4 rfl) ?_
          refine gf hx hb hts hown hE lkX5_68 hX.1 rfl dX5_party_52 ?_
          refine lv_bipush (v := 10) hx hb dX5_party_55 (by decide) ?_
          refine lv_iload_n hx hb dX5_party_57 rfl (lv_at hl 5 rfl) ?_
          refine lv_imul hx hb dX5_party_58 ?_
          refine lv_iload hx hb dX5_party_59 (lv_at hl 1 rfl) ?_
          refine lv_iadd hx hb dX5_party_61 ?_
          refine aI hx hb hE hA23 ei (by omega) (by omega) hr9.2 dX5_party_62 ?_
          refine lv_istore_n (lv' := [(3, .int y.2), (6, .int y.1), (5, .int (nI i)), (4, .int lt), (0, .ref x), (1, .int (nI t)), (2, .int day)]) hx hb dX5_party_63 rfl hl (by decide) rfl (fun ls hl => ?_)
          refine lv_iload hx hb dX5_party_64 (lv_at hl 1 rfl) ?_
          refine lv_istore (lv' := [(4, .int y.1), (3, .int y.2), (6, .int y.1), (5, .int (nI i)), (0, .ref x), (1, .int (nI t)), (2, .int day)]) hx hb dX5_party_66 hl (by decide) rfl (fun ls hl => ?_)
          refine lv_iinc (v := nI (i + 1)) (lv' := [(5, .int (nI (i + 1))), (4, .int y.1), (3, .int y.2), (6, .int y.1), (0, .ref x), (1, .int (nI t)), (2, .int day)]) hx hb dX5_party_68 hl (k := 3) rfl (nI_1 i) (by decide) rfl (fun ls hl => ?_)
          refine lv_goto (tgt := 13) hx hb dX5_party_71 (by decide) ?_
          exact ih (i + 1) y.1 y.2 ls hd2 (by omega) (he.trans (by simp only [lvL]; rw [if_pos ⟨Int32.not_lt.mp c1, Int32.not_lt.mp c2⟩])) (lv_sub hl [0, 1, 2, 4, 5, 6] rfl)
  exact loop tr.2.2 0 (-1) (tr.1 0) ls rfl (Nat.zero_le _) rfl (lv_sub hl [0, 1, 2, 3, 4, 5] rfl)

set_option maxRecDepth 100000 in
set_option maxHeartbeats 4000000 in
/-- begins -/
theorem c_beg (E : ET) (x : Nat) (sc : Nat → Int32) (ad : Nat → Nat) (ar : Nat → Nat → Int32) (h0 h1 fx : Dy) (ts : List TR) (B : BK) (t : Nat) (tr : TR) (k n : Nat) (H : Heap) (hX : MX E x sc ad ar H) (hI : MI sc ar h0 h1 fx ts B) (hV : SV h0 h1 fx ts) (ht : ts[t]? = some tr) (hn : tr.1 6 = nI n) (hnp : n ≤ 10) (hk : k ≤ n) : PCon E yX5_begins cX5_begins 3 (some FieldType.int) 3 [.ref x, .int (nI t), .int (nI k)] H (some (.int (bfC h0 h1 tr.1 k))) := by
  refine PCon.of (C := RX5) rfl (by decide +kernel) (Nat.le_of_ble_eq_true rfl) ?_
  intro p e s m below meth co ls hx hb hr hlk hml hown hts hE hH hl
  have hl : lv_has ls 3 [(0, .ref x), (1, .int (nI t)), (2, .int (nI k))] := hl
  have hA11 : IA E 10 (ar 11) (ad 11) H := hX.2 11 rfl
  have hA12 : IA E 10 (ar 12) (ad 12) H := hX.2 12 rfl
  have hn0 := hn
  have htl_ : t < 10 := by
    have := (List.getElem?_eq_some_iff.mp ht).1
    have := hV.2.2.2.2.2.2.2.1
    omega
  obtain ⟨pa_, lo_, f_, le_, n_, v1_, v2_, v3_, v4_, v5_, v6_, v7_, v8_, t0_, t1_, t2_, t4_, t5_, t6_, t8_, t9_, tb_, th_⟩ := hV.2.2.2.2.2.2.2.2 tr (List.mem_of_getElem? ht)
  have hF_ : ∀ j, j < 10 → ar (7 + j) t = tr.1 j := hI.2.2.2.2.2.1 t tr ht
  have ek : k * le_ ≤ 10 * 180 := Nat.mul_le_mul (by omega) (by omega)
  refine lv_aload_n hx hb dX5_begins_0 rfl (lv_at hl 0 rfl) ?_
  refine lv_aload_n hx hb dX5_begins_1 rfl (lv_at hl 0 rfl) ?_
  refine gf hx hb hts hown hE lkX5_35 hX.1 rfl dX5_begins_2 ?_
  refine lv_iload_n hx hb dX5_begins_5 rfl (lv_at hl 1 rfl) ?_
  refine aI hx hb hE hA11 rfl htl_ (by omega) ((hF_ 4 (by omega)).trans t4_) dX5_begins_6 ?_
  refine lv_iload_n hx hb dX5_begins_7 rfl (lv_at hl 2 rfl) ?_
  refine lv_aload_n hx hb dX5_begins_8 rfl (lv_at hl 0 rfl) ?_
  refine gf hx hb hts hown hE lkX5_38 hX.1 rfl dX5_begins_9 ?_
  refine lv_iload_n hx hb dX5_begins_12 rfl (lv_at hl 1 rfl) ?_
  refine aI hx hb hE hA12 rfl htl_ (by omega) ((hF_ 5 (by omega)).trans t5_) dX5_begins_13 ?_
  refine lv_imul hx hb dX5_begins_14 ?_
  refine lv_iadd hx hb dX5_begins_15 ?_
  rw [show nI f_ + nI k * nI le_ = nI (f_ + k * le_) by rw [pk_mul, nI_add]]
  refine pV hx hb hml hts hown hE kwX5_92 (c_rolled E x sc ad ar h0 h1 fx ts B (f_ + k * le_) H hX hI hV (by omega)) hX.1 rfl (Nat.le_of_ble_eq_true rfl) rfl hl.1 rfl (Nat.le_of_ble_eq_true rfl) (Nat.le_refl _) (Nat.le_refl _) dX5_begins_16 ?_
  exact pI hx hb hr hlk hH ((bfC_eq t4_ t5_ hn (by omega) (by omega) (by omega) hk).symm) dX5_begins_19

set_option maxRecDepth 100000 in
set_option maxHeartbeats 4000000 in
/-- days -/
theorem c_mdays (E : ET) (x : Nat) (sc : Nat → Int32) (ad : Nat → Nat) (ar : Nat → Nat → Int32) (h0 h1 fx : Dy) (ts : List TR) (B : BK) (t : Nat) (tr : TR) (k n : Nat) (H : Heap) (hX : MX E x sc ad ar H) (hI : MI sc ar h0 h1 fx ts B) (hV : SV h0 h1 fx ts) (ht : ts[t]? = some tr) (hn : tr.1 6 = nI n) (hnp : n ≤ 10) (hk : k < n) : PCon E yX5_days cX5_days 3 (some FieldType.int) 4 [.ref x, .int (nI t), .int (nI k)] H (some (.int (dysI tr.1 (bfC h0 h1 tr.1) k))) := by
  refine PCon.of (C := RX5) rfl (by decide +kernel) (Nat.le_of_ble_eq_true rfl) ?_
  intro p e s m below meth co ls hx hb hr hlk hml hown hts hE hH hl
  have hl : lv_has ls 3 [(0, .ref x), (1, .int (nI t)), (2, .int (nI k))] := hl
  have hA15 : IA E 10 (ar 15) (ad 15) H := hX.2 15 rfl
  have hA12 : IA E 10 (ar 12) (ad 12) H := hX.2 12 rfl
  have htl_ : t < 10 := by
    have := (List.getElem?_eq_some_iff.mp ht).1
    have := hV.2.2.2.2.2.2.2.1
    omega
  obtain ⟨pa_, lo_, f_, le_, n_, v1_, v2_, v3_, v4_, v5_, v6_, v7_, v8_, t0_, t1_, t2_, t4_, t5_, t6_, t8_, t9_, tb_, th_⟩ := hV.2.2.2.2.2.2.2.2 tr (List.mem_of_getElem? ht)
  have hF_ : ∀ j, j < 10 → ar (7 + j) t = tr.1 j := hI.2.2.2.2.2.1 t tr ht
  refine lv_aload_n hx hb dX5_days_0 rfl (lv_at hl 0 rfl) ?_
  refine gf hx hb hts hown hE lkX5_47 hX.1 rfl dX5_days_1 ?_
  refine lv_iload_n hx hb dX5_days_4 rfl (lv_at hl 1 rfl) ?_
  refine aI hx hb hE hA15 rfl htl_ (by omega) (hF_ 8 (by omega)) dX5_days_5 ?_
  refine lv_iconst (v := 1) hx hb dX5_days_6 (by decide) ?_
  refine lv_icmp_ne (tgt := 19) hx hb dX5_days_7 (by decide) (fun c => ?_) (fun c => ?_)
  · have c0 : tr.1 8 = 0 := t8_.resolve_right c
    refine lv_aload_n hx hb dX5_days_19 rfl (lv_at hl 0 rfl) ?_
    refine lv_iload_n hx hb dX5_days_20 rfl (lv_at hl 1 rfl) ?_
    refine lv_iload_n hx hb dX5_days_21 rfl (lv_at hl 2 rfl) ?_
    refine lv_iconst (v := 1) hx hb dX5_days_22 (by decide) ?_
    refine lv_iadd hx hb dX5_days_23 ?_
    rw [show nI k + 1 = nI (k + 1) from nI_1 k]
    refine pV hx hb hml hts hown hE kwX5_128 (c_beg E x sc ad ar h0 h1 fx ts B t tr (k + 1) n H hX hI hV ht hn hnp (by omega)) hX.1 rfl (Nat.le_of_ble_eq_true rfl) rfl hl.1 rfl (Nat.le_of_ble_eq_true rfl) (Nat.le_refl _) (Nat.le_refl _) dX5_days_24 ?_
    refine lv_aload_n hx hb dX5_days_27 rfl (lv_at hl 0 rfl) ?_
    refine lv_iload_n hx hb dX5_days_28 rfl (lv_at hl 1 rfl) ?_
    refine lv_iload_n hx hb dX5_days_29 rfl (lv_at hl 2 rfl) ?_
    refine pV hx hb hml hts hown hE kwX5_128 (c_beg E x sc ad ar h0 h1 fx ts B t tr k n H hX hI hV ht hn hnp (by omega)) hX.1 rfl (Nat.le_of_ble_eq_true rfl) rfl hl.1 rfl (Nat.le_of_ble_eq_true rfl) (Nat.le_refl _) (Nat.le_refl _) dX5_days_30 ?_
    refine lv_isub hx hb dX5_days_33 ?_
    exact pI hx hb hr hlk hH (by simp only [dysI, if_pos c0]) dX5_days_34
  · have c0 : ¬ tr.1 8 = 0 := by rw [c]; decide
    refine lv_aload_n hx hb dX5_days_10 rfl (lv_at hl 0 rfl) ?_
    refine gf hx hb hts hown hE lkX5_38 hX.1 rfl dX5_days_11 ?_
    refine lv_iload_n hx hb dX5_days_14 rfl (lv_at hl 1 rfl) ?_
    refine aI hx hb hE hA12 rfl htl_ (by omega) (hF_ 5 (by omega)) dX5_days_15 ?_
    refine lv_goto (tgt := 34) hx hb dX5_days_16 (by decide) ?_
    exact pI hx hb hr hlk hH (by simp only [dysI, if_neg c0]) dX5_days_34

set_option maxRecDepth 100000 in
set_option maxHeartbeats 4000000 in
/-- lotsOf -/
theorem c_mlots (E : ET) (x : Nat) (sc : Nat → Int32) (ad : Nat → Nat) (ar : Nat → Nat → Int32) (h0 h1 fx : Dy) (ts : List TR) (B : BK) (t : Nat) (tr : TR) (k n : Nat) (H : Heap) (hX : MX E x sc ad ar H) (hI : MI sc ar h0 h1 fx ts B) (hV : SV h0 h1 fx ts) (ht : ts[t]? = some tr) (hn : tr.1 6 = nI n) (hnp : n ≤ 10) (hk : k < n) : PCon E yX5_lotsOf cX5_lotsOf 3 (some FieldType.int) 4 [.ref x, .int (nI t), .int (nI k)] H (some (.int (lotS tr.1 tr.2.1 (bfC h0 h1 tr.1) k))) := by
  refine PCon.of (C := RX5) rfl (by decide +kernel) (Nat.le_of_ble_eq_true rfl) ?_
  intro p e s m below meth co ls hx hb hr hlk hml hown hts hE hH hl
  have hl : lv_has ls 3 [(0, .ref x), (1, .int (nI t)), (2, .int (nI k))] := hl
  have hA8 : IA E 10 (ar 8) (ad 8) H := hX.2 8 rfl
  have htl_ : t < 10 := by
    have := (List.getElem?_eq_some_iff.mp ht).1
    have := hV.2.2.2.2.2.2.2.1
    omega
  obtain ⟨pa_, lo_, f_, le_, n_, v1_, v2_, v3_, v4_, v5_, v6_, v7_, v8_, t0_, t1_, t2_, t4_, t5_, t6_, t8_, t9_, tb_, th_⟩ := hV.2.2.2.2.2.2.2.2 tr (List.mem_of_getElem? ht)
  have hF_ : ∀ j, j < 10 → ar (7 + j) t = tr.1 j := hI.2.2.2.2.2.1 t tr ht
  have hb9 := hI.2.2.2.2.2.2.2.2.2.1 t tr ht
  refine lv_aload_n hx hb dX5_lotsOf_0 rfl (lv_at hl 0 rfl) ?_
  refine gf hx hb hts hown hE lkX5_26 hX.1 rfl dX5_lotsOf_1 ?_
  refine lv_iload_n hx hb dX5_lotsOf_4 rfl (lv_at hl 1 rfl) ?_
  refine aI hx hb hE hA8 rfl htl_ (by omega) (hF_ 1 (by omega)) dX5_lotsOf_5 ?_
  refine lv_aload_n hx hb dX5_lotsOf_6 rfl (lv_at hl 0 rfl) ?_
  refine lv_iload_n hx hb dX5_lotsOf_7 rfl (lv_at hl 1 rfl) ?_
  refine lv_aload_n hx hb dX5_lotsOf_8 rfl (lv_at hl 0 rfl) ?_
  refine lv_iload_n hx hb dX5_lotsOf_9 rfl (lv_at hl 1 rfl) ?_
  refine lv_iload_n hx hb dX5_lotsOf_10 rfl (lv_at hl 2 rfl) ?_
  refine pV hx hb hml hts hown hE kwX5_128 (c_beg E x sc ad ar h0 h1 fx ts B t tr k n H hX hI hV ht hn hnp (by omega)) hX.1 rfl (Nat.le_of_ble_eq_true rfl) rfl hl.1 rfl (Nat.le_of_ble_eq_true rfl) (Nat.le_refl _) (Nat.le_refl _) dX5_lotsOf_11 ?_
  refine pV hx hb hml hts hown hE kwX5_111 (c_broken E x sc ad ar h0 h1 fx ts B t (bfC h0 h1 tr.1 k) H hX hI hV htl_) hX.1 rfl (Nat.le_of_ble_eq_true rfl) rfl hl.1 rfl (Nat.le_of_ble_eq_true rfl) (Nat.le_refl _) (Nat.le_refl _) dX5_lotsOf_14 ?_
  refine lv_isub hx hb dX5_lotsOf_17 ?_
  exact pI hx hb hr hlk hH (by rw [← hb9]; rfl) dX5_lotsOf_18

set_option maxRecDepth 100000 in
set_option maxHeartbeats 4000000 in
/-- floor -/
theorem c_floor (E : ET) (a : Int64) (H : Heap) : PCon E yX5_floor cX5_floor 6 (some FieldType.long) 1 [.long a, .long 3600000] H (some (.long (flo a))) := by
  refine PCon.of (C := RX5) rfl (by decide +kernel) (Nat.le_of_ble_eq_true rfl) ?_
  intro p e s m below meth co ls hx hb hr hlk hml hown hts hE hH hl
  have hl : lv_has ls 6 [(0, .long a), (2, .long 3600000)] := hl
  refine lv_lload_n hx hb dX5_floor_0 rfl (lv_at hl 0 rfl) ?_
  refine lv_lload_n hx hb dX5_floor_1 rfl (lv_at hl 1 rfl) ?_
  refine lv_ldiv hx hb dX5_floor_2 (by decide) ?_
  refine lv_lstore (lv' := [(4, .long (a / 3600000)), (0, .long a), (2, .long 3600000)]) hx hb dX5_floor_3 hl (by decide) rfl (fun ls hl => ?_)
  refine lv_lload hx hb dX5_floor_5 (lv_at hl 0 rfl) ?_
  refine lv_lload_n hx hb dX5_floor_7 rfl (lv_at hl 2 rfl) ?_
  refine lv_lmul hx hb dX5_floor_8 ?_
  refine lv_lload_n hx hb dX5_floor_9 rfl (lv_at hl 1 rfl) ?_
  refine W.lcmp hx hb dX5_floor_10 ?_
  refine lv_if_le (tgt := 21) hx hb dX5_floor_11 (by decide) (fun c => ?_) (fun c => ?_)
  · refine lv_lload hx hb dX5_floor_21 (lv_at hl 0 rfl) ?_
    exact pL hx hb hr hlk hH (by rw [flo, if_neg (fun q => absurd q (Int64.not_lt.mpr ((lg_cmp_le _ _).mp c)))]) dX5_floor_23
  · refine lv_lload hx hb dX5_floor_14 (lv_at hl 0 rfl) ?_
    refine lv_lconst (v := 1) hx hb dX5_floor_16 (by decide) ?_
    refine lv_lsub hx hb dX5_floor_17 ?_
    refine lv_goto (tgt := 23) hx hb dX5_floor_18 (by decide) ?_
    exact pL hx hb hr hlk hH (by rw [flo, if_pos (Int64.not_le.mp (fun q => c ((lg_cmp_le _ _).mpr q)))]) dX5_floor_23
end
section
/-- the flows of the first k periods of a trade, one by one added to v -/
def sumK (h0 h1 fx : Dy) (pa d1 d2 : Int32) (tr : TR) (v : Int64) : Nat → Int64
  | 0 => v
  | k + 1 => sumK h0 h1 fx pa d1 d2 tr v k + (if inB (bfC h0 h1 tr.1 (k + 1)) d1 d2 = true ∧ hldS tr.1 tr.2.2 (bfC h0 h1 tr.1 (k + 1)) = pa then flwS tr.1 tr.2.1 (bfC h0 h1 tr.1) fx k else 0)
def sumS (h0 h1 fx : Dy) (pa d1 d2 : Int32) : Int64 → List TR → Int64
  | v, [] => v
  | v, tr :: us => sumS h0 h1 fx pa d1 d2 (sumK h0 h1 fx pa d1 d2 tr v (tr.1 6).toNatClampNeg) us
set_option maxRecDepth 100000 in
set_option maxHeartbeats 4000000 in
/-- floats -/
theorem c_mfloats (E : ET) (x : Nat) (sc : Nat → Int32) (ad : Nat → Nat) (ar : Nat → Nat → Int32) (h0 h1 fx : Dy) (ts : List TR) (B : BK) (t : Nat) (tr : TR) (k n : Nat) (H : Heap) (hX : MX E x sc ad ar H) (hI : MI sc ar h0 h1 fx ts B) (hV : SV h0 h1 fx ts) (ht : ts[t]? = some tr) (hn : tr.1 6 = nI n) (hnp : n ≤ 10) (hk : k < n) : PCon E yX5_floats cX5_floats 16 (some FieldType.long) 5 [.ref x, .int (nI t), .int (nI k)] H (some (.long (fltS tr.1 (bfC h0 h1 tr.1) fx k))) := by
  refine PCon.of (C := RX5) rfl (by decide +kernel) (Nat.le_of_ble_eq_true rfl) ?_
  intro p e s m below meth co ls hx hb hr hlk hml hown hts hE hH hl
  have hl : lv_has ls 16 [(0, .ref x), (1, .int (nI t)), (2, .int (nI k))] := hl
  have hA16 : IA E 10 (ar 16) (ad 16) H := hX.2 16 rfl
  have hA14 : IA E 10 (ar 14) (ad 14) H := hX.2 14 rfl
  have htl_ : t < 10 := by
    have := (List.getElem?_eq_some_iff.mp ht).1
    have := hV.2.2.2.2.2.2.2.1
    omega
  obtain ⟨pa_, lo_, f_, le_, n_, v1_, v2_, v3_, v4_, v5_, v6_, v7_, v8_, t0_, t1_, t2_, t4_, t5_, t6_, t8_, t9_, tb_, th_⟩ := hV.2.2.2.2.2.2.2.2 tr (List.mem_of_getElem? ht)
  have hF_ : ∀ j, j < 10 → ar (7 + j) t = tr.1 j := hI.2.2.2.2.2.1 t tr ht
  have h9 := t9_
  refine lv_lconst (v := 0) hx hb dX5_floats_0 (by decide) ?_
  refine lv_lstore_n (lv' := [(3, .long 0), (0, .ref x), (1, .int (nI t)), (2, .int (nI k))]) hx hb dX5_floats_1 rfl hl (by decide) rfl (fun ls hl => ?_)
  refine lv_lconst (v := 0) hx hb dX5_floats_2 (by decide) ?_
  refine lv_lstore (lv' := [(5, .long 0), (3, .long 0), (0, .ref x), (1, .int (nI t)), (2, .int (nI k))]) hx hb dX5_floats_3 hl (by decide) rfl (fun ls hl => ?_)
  refine lv_iconst (v := 0) hx hb dX5_floats_5 (by decide) ?_
  refine lv_istore (lv' := [(7, .int 0), (5, .long 0), (3, .long 0), (0, .ref x), (1, .int (nI t)), (2, .int (nI k))]) hx hb dX5_floats_6 hl (by decide) rfl (fun ls hl => ?_)
  have loop : ∀ (q i : Nat) (v cc : Int64) (ls : Array Slot), i + q = k + 1 → cc = (flS tr.1 (bfC h0 h1 tr.1) fx i).1 → (∀ j, i = j + 1 → v = (flS tr.1 (bfC h0 h1 tr.1) fx (j + 1)).2) → lv_has ls 16 [(7, .int (nI i)), (5, .long v), (3, .long cc), (0, .ref x), (1, .int (nI t)), (2, .int (nI k))] → W p (eL E) e (rmk 5 0 0) s m ([.ref x, .int (nI t), .int (nI k)]).toArray below meth co H [] 0 0 (MQ below (PQ (some (.long (fltS tr.1 (bfC h0 h1 tr.1) fx k)))) ([.ref x, .int (nI t), .int (nI k)]).toArray s 0 0 (fun _ => False)) (F0 m 8 ls []) := by
    intro q
    induction q with
    | zero =>
      intro i v cc ls hi hc hv9 hl
      have hi2 : i = k + 1 := by omega
      subst hi2
      refine lv_iload hx hb dX5_floats_8 (lv_at hl 0 rfl) ?_
      refine lv_iload_n hx hb dX5_floats_10 rfl (lv_at hl 5 rfl) ?_
      refine lv_icmp_gt (tgt := 150) hx hb dX5_floats_11 (by decide) (fun c3 => ?_) (fun c3 => ?_)
      rotate_left
      · exact absurd (show nI k < nI (k + 1) from nI_lt (by omega) (by omega)) c3
      refine lv_lload hx hb dX5_floats_150 (lv_at hl 1 rfl) ?_
      exact pL hx hb hr hlk hH (hv9 k rfl) dX5_floats_152
    | succ q ih =>
      intro i v cc ls hi hc hv9 hl
      refine lv_iload hx hb dX5_floats_8 (lv_at hl 0 rfl) ?_
      refine lv_iload_n hx hb dX5_floats_10 rfl (lv_at hl 5 rfl) ?_
      refine lv_icmp_gt (tgt := 150) hx hb dX5_floats_11 (by decide) (fun c3 => ?_) (fun c3 => ?_)
      · exact absurd c3 (nI_nlt (by omega) (by omega))
      refine lv_aload_n hx hb dX5_floats_14 rfl (lv_at hl 3 rfl) ?_
      refine lv_aload_n hx hb dX5_floats_15 rfl (lv_at hl 3 rfl) ?_
      refine lv_iload_n hx hb dX5_floats_16 rfl (lv_at hl 4 rfl) ?_
      refine lv_iload hx hb dX5_floats_17 (lv_at hl 0 rfl) ?_
      refine pV hx hb hml hts hown hE kwX5_128 (c_beg E x sc ad ar h0 h1 fx ts B t tr i n H hX hI hV ht hn hnp (by omega)) hX.1 rfl (Nat.le_of_ble_eq_true rfl) rfl hl.1 rfl (Nat.le_of_ble_eq_true rfl) (Nat.le_refl _) (Nat.le_refl _) dX5_floats_19 ?_
      have eb : bfC h0 h1 tr.1 i = nI (rol h0 h1 (f_ + i * le_)) := bfC_eq t4_ t5_ hn (by omega) (by omega) (by omega) (by omega)
      have ebl : rol h0 h1 (f_ + i * le_) < 2 ^ 31 := by have := rol_le h0 h1 (f_ + i * le_); have : i * le_ ≤ 10 * 180 := Nat.mul_le_mul (by omega) (by omega); omega
      have hM := c_mrate E x sc ad ar h0 h1 fx ts B (rol h0 h1 (f_ + i * le_)) H hX hI hV ebl
      rw [← eb] at hM
      refine pV hx hb hml hts hown hE kwX5_102 hM hX.1 rfl (Nat.le_of_ble_eq_true rfl) rfl hl.1 rfl (Nat.le_of_ble_eq_true rfl) (Nat.le_refl _) (Nat.le_refl _) dX5_floats_22 ?_
      refine lv_i2l hx hb dX5_floats_25 rfl ?_
      refine lv_lstore (lv' := [(8, .long ((dLast fx (bfC h0 h1 tr.1 i) 0).toInt64)), (7, .int (nI i)), (5, .long v), (3, .long cc), (0, .ref x), (1, .int (nI t)), (2, .int (nI k))]) hx hb dX5_floats_26 hl (by decide) rfl (fun ls hl => ?_)
      refine lv_aload_n hx hb dX5_floats_28 rfl (lv_at hl 4 rfl) ?_
      refine lv_iload_n hx hb dX5_floats_29 rfl (lv_at hl 5 rfl) ?_
      refine lv_iload hx hb dX5_floats_30 (lv_at hl 1 rfl) ?_
      refine pV hx hb hml hts hown hE kwX5_138 (c_mdays E x sc ad ar h0 h1 fx ts B t tr i n H hX hI hV ht hn hnp (by omega)) hX.1 rfl (Nat.le_of_ble_eq_true rfl) rfl hl.1 rfl (Nat.le_of_ble_eq_true rfl) (Nat.le_refl _) (Nat.le_refl _) dX5_floats_32 ?_
      refine lv_i2l hx hb dX5_floats_35 rfl ?_
      refine lv_lstore (lv' := [(10, .long ((dysI tr.1 (bfC h0 h1 tr.1) i).toInt64)), (8, .long ((dLast fx (bfC h0 h1 tr.1 i) 0).toInt64)), (7, .int (nI i)), (5, .long v), (3, .long cc), (0, .ref x), (1, .int (nI t)), (2, .int (nI k))]) hx hb dX5_floats_36 hl (by decide) rfl (fun ls hl => ?_)
      refine lv_aload_n hx hb dX5_floats_38 rfl (lv_at hl 5 rfl) ?_
      refine gf hx hb hts hown hE lkX5_50 hX.1 rfl dX5_floats_39 ?_
      refine lv_iload_n hx hb dX5_floats_42 rfl (lv_at hl 6 rfl) ?_
      refine aI hx hb hE hA16 rfl htl_ (by omega) (hF_ 9 (by omega)) dX5_floats_43 ?_
      refine lv_iconst (v := 1) hx hb dX5_floats_44 (by decide) ?_
      refine lv_icmp_ne (tgt := 61) hx hb dX5_floats_45 (by decide) (fun c1 => ?_) (fun c1 => ?_)
      · by_cases d9 : tr.1 9 = 0
        · refine lv_lload hx hb dX5_floats_61 (lv_at hl 1 rfl) ?_
          refine lv_lstore (lv' := [(12, .long ((dLast fx (bfC h0 h1 tr.1 i) 0).toInt64)), (10, .long ((dysI tr.1 (bfC h0 h1 tr.1) i).toInt64)), (8, .long ((dLast fx (bfC h0 h1 tr.1 i) 0).toInt64)), (7, .int (nI i)), (5, .long v), (3, .long cc), (0, .ref x), (1, .int (nI t)), (2, .int (nI k))]) hx hb dX5_floats_63 hl (by decide) rfl (fun ls hl => ?_)
          refine lv_ldc2 (v := 3600000) hx hb hown (hts _ qw4_140) dX5_floats_65 ?_
          refine lv_lload_n hx hb dX5_floats_68 rfl (lv_at hl 5 rfl) ?_
          refine lv_ladd hx hb dX5_floats_69 ?_
          refine lv_lload hx hb dX5_floats_70 (lv_at hl 0 rfl) ?_
          refine lv_lmul hx hb dX5_floats_72 ?_
          refine lv_lload hx hb dX5_floats_73 (lv_at hl 1 rfl) ?_
          refine lv_lmul hx hb dX5_floats_75 ?_
          refine lv_ldc2 (v := 3600000) hx hb hown (hts _ qw4_140) dX5_floats_76 ?_
          refine pS hx hb hml hts hown hE kwX5_143 (c_floor E (((3600000 + cc) * (dLast fx (bfC h0 h1 tr.1 i) 0).toInt64) * (dysI tr.1 (bfC h0 h1 tr.1) i).toInt64) H) (Nat.le_of_ble_eq_true rfl) rfl hl.1 rfl (Nat.le_of_ble_eq_true rfl) (Nat.le_refl _) (Nat.le_refl _) dX5_floats_79 ?_
          refine lv_lstore (lv' := [(14, .long (flo (((3600000 + cc) * (dLast fx (bfC h0 h1 tr.1 i) 0).toInt64) * (dysI tr.1 (bfC h0 h1 tr.1) i).toInt64))), (12, .long ((dLast fx (bfC h0 h1 tr.1 i) 0).toInt64)), (10, .long ((dysI tr.1 (bfC h0 h1 tr.1) i).toInt64)), (8, .long ((dLast fx (bfC h0 h1 tr.1 i) 0).toInt64)), (7, .int (nI i)), (5, .long v), (3, .long cc), (0, .ref x), (1, .int (nI t)), (2, .int (nI k))]) hx hb dX5_floats_82 hl (by decide) rfl (fun ls hl => ?_)
          refine lv_aload_n hx hb dX5_floats_84 rfl (lv_at hl 7 rfl) ?_
          refine gf hx hb hts hown hE lkX5_50 hX.1 rfl dX5_floats_85 ?_
          refine lv_iload_n hx hb dX5_floats_88 rfl (lv_at hl 8 rfl) ?_
          refine aI hx hb hE hA16 rfl htl_ (by omega) (hF_ 9 (by omega)) dX5_floats_89 ?_
          refine lv_if_ne (tgt := 109) hx hb dX5_floats_90 (by decide) (fun c7 => ?_) (fun c7 => ?_)
          · exact absurd d9 c7
          refine lv_lload hx hb dX5_floats_93 (lv_at hl 3 rfl) ?_
          refine lv_aload_n hx hb dX5_floats_95 rfl (lv_at hl 7 rfl) ?_
          refine gf hx hb hts hown hE lkX5_44 hX.1 rfl dX5_floats_96 ?_
          refine lv_iload_n hx hb dX5_floats_99 rfl (lv_at hl 8 rfl) ?_
          refine aI hx hb hE hA14 rfl htl_ (by omega) (hF_ 7 (by omega)) dX5_floats_100 ?_
          refine lv_i2l hx hb dX5_floats_101 rfl ?_
          refine lv_ladd hx hb dX5_floats_102 ?_
          refine lv_lload hx hb dX5_floats_103 (lv_at hl 2 rfl) ?_
          refine lv_lmul hx hb dX5_floats_105 ?_
          refine lv_goto (tgt := 137) hx hb dX5_floats_106 (by decide) ?_
          refine lv_lstore (lv' := [(5, .long (((dLast fx (bfC h0 h1 tr.1 i) 0).toInt64 + (tr.1 7).toInt64) * (dysI tr.1 (bfC h0 h1 tr.1) i).toInt64)), (14, .long (flo (((3600000 + cc) * (dLast fx (bfC h0 h1 tr.1 i) 0).toInt64) * (dysI tr.1 (bfC h0 h1 tr.1) i).toInt64))), (12, .long ((dLast fx (bfC h0 h1 tr.1 i) 0).toInt64)), (10, .long ((dysI tr.1 (bfC h0 h1 tr.1) i).toInt64)), (8, .long ((dLast fx (bfC h0 h1 tr.1 i) 0).toInt64)), (7, .int (nI i)), (3, .long cc), (0, .ref x), (1, .int (nI t)), (2, .int (nI k))]) hx hb dX5_floats_137 hl (by decide) rfl (fun ls hl => ?_)
          refine lv_lload_n hx hb dX5_floats_139 rfl (lv_at hl 6 rfl) ?_
          refine lv_lload hx hb dX5_floats_140 (lv_at hl 1 rfl) ?_
          refine lv_ladd hx hb dX5_floats_142 ?_
          refine lv_lstore_n (lv' := [(3, .long (cc + (flo (((3600000 + cc) * (dLast fx (bfC h0 h1 tr.1 i) 0).toInt64) * (dysI tr.1 (bfC h0 h1 tr.1) i).toInt64)))), (5, .long (((dLast fx (bfC h0 h1 tr.1 i) 0).toInt64 + (tr.1 7).toInt64) * (dysI tr.1 (bfC h0 h1 tr.1) i).toInt64)), (14, .long (flo (((3600000 + cc) * (dLast fx (bfC h0 h1 tr.1 i) 0).toInt64) * (dysI tr.1 (bfC h0 h1 tr.1) i).toInt64))), (12, .long ((dLast fx (bfC h0 h1 tr.1 i) 0).toInt64)), (10, .long ((dysI tr.1 (bfC h0 h1 tr.1) i).toInt64)), (8, .long ((dLast fx (bfC h0 h1 tr.1 i) 0).toInt64)), (7, .int (nI i)), (0, .ref x), (1, .int (nI t)), (2, .int (nI k))]) hx hb dX5_floats_143 rfl hl (by decide) rfl (fun ls hl => ?_)
          refine lv_iinc (v := nI (i + 1)) (lv' := [(7, .int (nI (i + 1))), (3, .long (cc + (flo (((3600000 + cc) * (dLast fx (bfC h0 h1 tr.1 i) 0).toInt64) * (dysI tr.1 (bfC h0 h1 tr.1) i).toInt64)))), (5, .long (((dLast fx (bfC h0 h1 tr.1 i) 0).toInt64 + (tr.1 7).toInt64) * (dysI tr.1 (bfC h0 h1 tr.1) i).toInt64)), (14, .long (flo (((3600000 + cc) * (dLast fx (bfC h0 h1 tr.1 i) 0).toInt64) * (dysI tr.1 (bfC h0 h1 tr.1) i).toInt64))), (12, .long ((dLast fx (bfC h0 h1 tr.1 i) 0).toInt64)), (10, .long ((dysI tr.1 (bfC h0 h1 tr.1) i).toInt64)), (8, .long ((dLast fx (bfC h0 h1 tr.1 i) 0).toInt64)), (0, .ref x), (1, .int (nI t)), (2, .int (nI k))]) hx hb dX5_floats_144 hl (k := 6) rfl (nI_1 i) (by decide) rfl (fun ls hl => ?_)
          refine lv_goto (tgt := 8) hx hb dX5_floats_147 (by decide) ?_
          exact ih (i + 1) (((dLast fx (bfC h0 h1 tr.1 i) 0).toInt64 + (tr.1 7).toInt64) * (dysI tr.1 (bfC h0 h1 tr.1) i).toInt64) (cc + (flo (((3600000 + cc) * (dLast fx (bfC h0 h1 tr.1 i) 0).toInt64) * (dysI tr.1 (bfC h0 h1 tr.1) i).toInt64))) ls (by omega) (by rw [hc]; simp only [flS, rte, dysI_l]; rw [if_neg c1]) (fun j hj => by cases hj; (try rw [hc]); simp only [flS, rte, dysI_l]; rw [if_pos d9]) (lv_sub hl [0, 2, 1, 7, 8, 9] rfl)
        · refine lv_lload hx hb dX5_floats_61 (lv_at hl 1 rfl) ?_
          refine lv_lstore (lv' := [(12, .long ((dLast fx (bfC h0 h1 tr.1 i) 0).toInt64)), (10, .long ((dysI tr.1 (bfC h0 h1 tr.1) i).toInt64)), (8, .long ((dLast fx (bfC h0 h1 tr.1 i) 0).toInt64)), (7, .int (nI i)), (5, .long v), (3, .long cc), (0, .ref x), (1, .int (nI t)), (2, .int (nI k))]) hx hb dX5_floats_63 hl (by decide) rfl (fun ls hl => ?_)
          refine lv_ldc2 (v := 3600000) hx hb hown (hts _ qw4_140) dX5_floats_65 ?_
          refine lv_lload_n hx hb dX5_floats_68 rfl (lv_at hl 5 rfl) ?_
          refine lv_ladd hx hb dX5_floats_69 ?_
          refine lv_lload hx hb dX5_floats_70 (lv_at hl 0 rfl) ?_
          refine lv_lmul hx hb dX5_floats_72 ?_
          refine lv_lload hx hb dX5_floats_73 (lv_at hl 1 rfl) ?_
          refine lv_lmul hx hb dX5_floats_75 ?_
          refine lv_ldc2 (v := 3600000) hx hb hown (hts _ qw4_140) dX5_floats_76 ?_
          refine pS hx hb hml hts hown hE kwX5_143 (c_floor E (((3600000 + cc) * (dLast fx (bfC h0 h1 tr.1 i) 0).toInt64) * (dysI tr.1 (bfC h0 h1 tr.1) i).toInt64) H) (Nat.le_of_ble_eq_true rfl) rfl hl.1 rfl (Nat.le_of_ble_eq_true rfl) (Nat.le_refl _) (Nat.le_refl _) dX5_floats_79 ?_
          refine lv_lstore (lv' := [(14, .long (flo (((3600000 + cc) * (dLast fx (bfC h0 h1 tr.1 i) 0).toInt64) * (dysI tr.1 (bfC h0 h1 tr.1) i).toInt64))), (12, .long ((dLast fx (bfC h0 h1 tr.1 i) 0).toInt64)), (10, .long ((dysI tr.1 (bfC h0 h1 tr.1) i).toInt64)), (8, .long ((dLast fx (bfC h0 h1 tr.1 i) 0).toInt64)), (7, .int (nI i)), (5, .long v), (3, .long cc), (0, .ref x), (1, .int (nI t)), (2, .int (nI k))]) hx hb dX5_floats_82 hl (by decide) rfl (fun ls hl => ?_)
          refine lv_aload_n hx hb dX5_floats_84 rfl (lv_at hl 7 rfl) ?_
          refine gf hx hb hts hown hE lkX5_50 hX.1 rfl dX5_floats_85 ?_
          refine lv_iload_n hx hb dX5_floats_88 rfl (lv_at hl 8 rfl) ?_
          refine aI hx hb hE hA16 rfl htl_ (by omega) (hF_ 9 (by omega)) dX5_floats_89 ?_
          refine lv_if_ne (tgt := 109) hx hb dX5_floats_90 (by decide) (fun c7 => ?_) (fun c7 => ?_)
          rotate_left
          · exact absurd c7 d9
          refine lv_aload_n hx hb dX5_floats_109 rfl (lv_at hl 7 rfl) ?_
          refine gf hx hb hts hown hE lkX5_50 hX.1 rfl dX5_floats_110 ?_
          refine lv_iload_n hx hb dX5_floats_113 rfl (lv_at hl 8 rfl) ?_
          refine aI hx hb hE hA16 rfl htl_ (by omega) (hF_ 9 (by omega)) dX5_floats_114 ?_
          refine lv_iconst (v := 1) hx hb dX5_floats_115 (by decide) ?_
          refine lv_icmp_ne (tgt := 124) hx hb dX5_floats_116 (by decide) (fun c8 => ?_) (fun c8 => ?_)
          rotate_left
          · exact absurd c8 c1
          refine lv_lload hx hb dX5_floats_124 (lv_at hl 0 rfl) ?_
          refine lv_aload_n hx hb dX5_floats_126 rfl (lv_at hl 7 rfl) ?_
          refine gf hx hb hts hown hE lkX5_44 hX.1 rfl dX5_floats_127 ?_
          refine lv_iload_n hx hb dX5_floats_130 rfl (lv_at hl 8 rfl) ?_
          refine aI hx hb hE hA14 rfl htl_ (by omega) (hF_ 7 (by omega)) dX5_floats_131 ?_
          refine lv_i2l hx hb dX5_floats_132 rfl ?_
          refine lv_lload hx hb dX5_floats_133 (lv_at hl 2 rfl) ?_
          refine lv_lmul hx hb dX5_floats_135 ?_
          refine lv_ladd hx hb dX5_floats_136 ?_
          refine lv_lstore (lv' := [(5, .long ((flo (((3600000 + cc) * (dLast fx (bfC h0 h1 tr.1 i) 0).toInt64) * (dysI tr.1 (bfC h0 h1 tr.1) i).toInt64)) + ((tr.1 7).toInt64 * (dysI tr.1 (bfC h0 h1 tr.1) i).toInt64))), (14, .long (flo (((3600000 + cc) * (dLast fx (bfC h0 h1 tr.1 i) 0).toInt64) * (dysI tr.1 (bfC h0 h1 tr.1) i).toInt64))), (12, .long ((dLast fx (bfC h0 h1 tr.1 i) 0).toInt64)), (10, .long ((dysI tr.1 (bfC h0 h1 tr.1) i).toInt64)), (8, .long ((dLast fx (bfC h0 h1 tr.1 i) 0).toInt64)), (7, .int (nI i)), (3, .long cc), (0, .ref x), (1, .int (nI t)), (2, .int (nI k))]) hx hb dX5_floats_137 hl (by decide) rfl (fun ls hl => ?_)
          refine lv_lload_n hx hb dX5_floats_139 rfl (lv_at hl 6 rfl) ?_
          refine lv_lload hx hb dX5_floats_140 (lv_at hl 1 rfl) ?_
          refine lv_ladd hx hb dX5_floats_142 ?_
          refine lv_lstore_n (lv' := [(3, .long (cc + (flo (((3600000 + cc) * (dLast fx (bfC h0 h1 tr.1 i) 0).toInt64) * (dysI tr.1 (bfC h0 h1 tr.1) i).toInt64)))), (5, .long ((flo (((3600000 + cc) * (dLast fx (bfC h0 h1 tr.1 i) 0).toInt64) * (dysI tr.1 (bfC h0 h1 tr.1) i).toInt64)) + ((tr.1 7).toInt64 * (dysI tr.1 (bfC h0 h1 tr.1) i).toInt64))), (14, .long (flo (((3600000 + cc) * (dLast fx (bfC h0 h1 tr.1 i) 0).toInt64) * (dysI tr.1 (bfC h0 h1 tr.1) i).toInt64))), (12, .long ((dLast fx (bfC h0 h1 tr.1 i) 0).toInt64)), (10, .long ((dysI tr.1 (bfC h0 h1 tr.1) i).toInt64)), (8, .long ((dLast fx (bfC h0 h1 tr.1 i) 0).toInt64)), (7, .int (nI i)), (0, .ref x), (1, .int (nI t)), (2, .int (nI k))]) hx hb dX5_floats_143 rfl hl (by decide) rfl (fun ls hl => ?_)
          refine lv_iinc (v := nI (i + 1)) (lv' := [(7, .int (nI (i + 1))), (3, .long (cc + (flo (((3600000 + cc) * (dLast fx (bfC h0 h1 tr.1 i) 0).toInt64) * (dysI tr.1 (bfC h0 h1 tr.1) i).toInt64)))), (5, .long ((flo (((3600000 + cc) * (dLast fx (bfC h0 h1 tr.1 i) 0).toInt64) * (dysI tr.1 (bfC h0 h1 tr.1) i).toInt64)) + ((tr.1 7).toInt64 * (dysI tr.1 (bfC h0 h1 tr.1) i).toInt64))), (14, .long (flo (((3600000 + cc) * (dLast fx (bfC h0 h1 tr.1 i) 0).toInt64) * (dysI tr.1 (bfC h0 h1 tr.1) i).toInt64))), (12, .long ((dLast fx (bfC h0 h1 tr.1 i) 0).toInt64)), (10, .long ((dysI tr.1 (bfC h0 h1 tr.1) i).toInt64)), (8, .long ((dLast fx (bfC h0 h1 tr.1 i) 0).toInt64)), (0, .ref x), (1, .int (nI t)), (2, .int (nI k))]) hx hb dX5_floats_144 hl (k := 6) rfl (nI_1 i) (by decide) rfl (fun ls hl => ?_)
          refine lv_goto (tgt := 8) hx hb dX5_floats_147 (by decide) ?_
          exact ih (i + 1) ((flo (((3600000 + cc) * (dLast fx (bfC h0 h1 tr.1 i) 0).toInt64) * (dysI tr.1 (bfC h0 h1 tr.1) i).toInt64)) + ((tr.1 7).toInt64 * (dysI tr.1 (bfC h0 h1 tr.1) i).toInt64)) (cc + (flo (((3600000 + cc) * (dLast fx (bfC h0 h1 tr.1 i) 0).toInt64) * (dysI tr.1 (bfC h0 h1 tr.1) i).toInt64))) ls (by omega) (by rw [hc]; simp only [flS, rte, dysI_l]; rw [if_neg c1]) (fun j hj => by cases hj; (try rw [hc]); simp only [flS, rte, dysI_l]; rw [if_neg d9, if_neg c1, if_neg c1]) (lv_sub hl [0, 2, 1, 7, 8, 9] rfl)
      · have d9 : ¬ tr.1 9 = 0 := by rw [c1]; decide
        refine lv_lload hx hb dX5_floats_48 (lv_at hl 1 rfl) ?_
        refine lv_aload_n hx hb dX5_floats_50 rfl (lv_at hl 5 rfl) ?_
        refine gf hx hb hts hown hE lkX5_44 hX.1 rfl dX5_floats_51 ?_
        refine lv_iload_n hx hb dX5_floats_54 rfl (lv_at hl 6 rfl) ?_
        refine aI hx hb hE hA14 rfl htl_ (by omega) (hF_ 7 (by omega)) dX5_floats_55 ?_
        refine lv_i2l hx hb dX5_floats_56 rfl ?_
        refine lv_ladd hx hb dX5_floats_57 ?_
        refine lv_goto (tgt := 63) hx hb dX5_floats_58 (by decide) ?_
        refine lv_lstore (lv' := [(12, .long ((dLast fx (bfC h0 h1 tr.1 i) 0).toInt64 + (tr.1 7).toInt64)), (10, .long ((dysI tr.1 (bfC h0 h1 tr.1) i).toInt64)), (8, .long ((dLast fx (bfC h0 h1 tr.1 i) 0).toInt64)), (7, .int (nI i)), (5, .long v), (3, .long cc), (0, .ref x), (1, .int (nI t)), (2, .int (nI k))]) hx hb dX5_floats_63 hl (by decide) rfl (fun ls hl => ?_)
        refine lv_ldc2 (v := 3600000) hx hb hown (hts _ qw4_140) dX5_floats_65 ?_
        refine lv_lload_n hx hb dX5_floats_68 rfl (lv_at hl 5 rfl) ?_
        refine lv_ladd hx hb dX5_floats_69 ?_
        refine lv_lload hx hb dX5_floats_70 (lv_at hl 0 rfl) ?_
        refine lv_lmul hx hb dX5_floats_72 ?_
        refine lv_lload hx hb dX5_floats_73 (lv_at hl 1 rfl) ?_
        refine lv_lmul hx hb dX5_floats_75 ?_
        refine lv_ldc2 (v := 3600000) hx hb hown (hts _ qw4_140) dX5_floats_76 ?_
        refine pS hx hb hml hts hown hE kwX5_143 (c_floor E (((3600000 + cc) * ((dLast fx (bfC h0 h1 tr.1 i) 0).toInt64 + (tr.1 7).toInt64)) * (dysI tr.1 (bfC h0 h1 tr.1) i).toInt64) H) (Nat.le_of_ble_eq_true rfl) rfl hl.1 rfl (Nat.le_of_ble_eq_true rfl) (Nat.le_refl _) (Nat.le_refl _) dX5_floats_79 ?_
        refine lv_lstore (lv' := [(14, .long (flo (((3600000 + cc) * ((dLast fx (bfC h0 h1 tr.1 i) 0).toInt64 + (tr.1 7).toInt64)) * (dysI tr.1 (bfC h0 h1 tr.1) i).toInt64))), (12, .long ((dLast fx (bfC h0 h1 tr.1 i) 0).toInt64 + (tr.1 7).toInt64)), (10, .long ((dysI tr.1 (bfC h0 h1 tr.1) i).toInt64)), (8, .long ((dLast fx (bfC h0 h1 tr.1 i) 0).toInt64)), (7, .int (nI i)), (5, .long v), (3, .long cc), (0, .ref x), (1, .int (nI t)), (2, .int (nI k))]) hx hb dX5_floats_82 hl (by decide) rfl (fun ls hl => ?_)
        refine lv_aload_n hx hb dX5_floats_84 rfl (lv_at hl 7 rfl) ?_
        refine gf hx hb hts hown hE lkX5_50 hX.1 rfl dX5_floats_85 ?_
        refine lv_iload_n hx hb dX5_floats_88 rfl (lv_at hl 8 rfl) ?_
        refine aI hx hb hE hA16 rfl htl_ (by omega) (hF_ 9 (by omega)) dX5_floats_89 ?_
        refine lv_if_ne (tgt := 109) hx hb dX5_floats_90 (by decide) (fun c7 => ?_) (fun c7 => ?_)
        rotate_left
        · exact absurd c7 d9
        refine lv_aload_n hx hb dX5_floats_109 rfl (lv_at hl 7 rfl) ?_
        refine gf hx hb hts hown hE lkX5_50 hX.1 rfl dX5_floats_110 ?_
        refine lv_iload_n hx hb dX5_floats_113 rfl (lv_at hl 8 rfl) ?_
        refine aI hx hb hE hA16 rfl htl_ (by omega) (hF_ 9 (by omega)) dX5_floats_114 ?_
        refine lv_iconst (v := 1) hx hb dX5_floats_115 (by decide) ?_
        refine lv_icmp_ne (tgt := 124) hx hb dX5_floats_116 (by decide) (fun c8 => ?_) (fun c8 => ?_)
        · exact absurd c1 c8
        refine lv_lload hx hb dX5_floats_119 (lv_at hl 0 rfl) ?_
        refine lv_goto (tgt := 137) hx hb dX5_floats_121 (by decide) ?_
        refine lv_lstore (lv' := [(5, .long (flo (((3600000 + cc) * ((dLast fx (bfC h0 h1 tr.1 i) 0).toInt64 + (tr.1 7).toInt64)) * (dysI tr.1 (bfC h0 h1 tr.1) i).toInt64))), (14, .long (flo (((3600000 + cc) * ((dLast fx (bfC h0 h1 tr.1 i) 0).toInt64 + (tr.1 7).toInt64)) * (dysI tr.1 (bfC h0 h1 tr.1) i).toInt64))), (12, .long ((dLast fx (bfC h0 h1 tr.1 i) 0).toInt64 + (tr.1 7).toInt64)), (10, .long ((dysI tr.1 (bfC h0 h1 tr.1) i).toInt64)), (8, .long ((dLast fx (bfC h0 h1 tr.1 i) 0).toInt64)), (7, .int (nI i)), (3, .long cc), (0, .ref x), (1, .int (nI t)), (2, .int (nI k))]) hx hb dX5_floats_137 hl (by decide) rfl (fun ls hl => ?_)
        refine lv_lload_n hx hb dX5_floats_139 rfl (lv_at hl 6 rfl) ?_
        refine lv_lload hx hb dX5_floats_140 (lv_at hl 1 rfl) ?_
        refine lv_ladd hx hb dX5_floats_142 ?_
        refine lv_lstore_n (lv' := [(3, .long (cc + (flo (((3600000 + cc) * ((dLast fx (bfC h0 h1 tr.1 i) 0).toInt64 + (tr.1 7).toInt64)) * (dysI tr.1 (bfC h0 h1 tr.1) i).toInt64)))), (5, .long (flo (((3600000 + cc) * ((dLast fx (bfC h0 h1 tr.1 i) 0).toInt64 + (tr.1 7).toInt64)) * (dysI tr.1 (bfC h0 h1 tr.1) i).toInt64))), (14, .long (flo (((3600000 + cc) * ((dLast fx (bfC h0 h1 tr.1 i) 0).toInt64 + (tr.1 7).toInt64)) * (dysI tr.1 (bfC h0 h1 tr.1) i).toInt64))), (12, .long ((dLast fx (bfC h0 h1 tr.1 i) 0).toInt64 + (tr.1 7).toInt64)), (10, .long ((dysI tr.1 (bfC h0 h1 tr.1) i).toInt64)), (8, .long ((dLast fx (bfC h0 h1 tr.1 i) 0).toInt64)), (7, .int (nI i)), (0, .ref x), (1, .int (nI t)), (2, .int (nI k))]) hx hb dX5_floats_143 rfl hl (by decide) rfl (fun ls hl => ?_)
        refine lv_iinc (v := nI (i + 1)) (lv' := [(7, .int (nI (i + 1))), (3, .long (cc + (flo (((3600000 + cc) * ((dLast fx (bfC h0 h1 tr.1 i) 0).toInt64 + (tr.1 7).toInt64)) * (dysI tr.1 (bfC h0 h1 tr.1) i).toInt64)))), (5, .long (flo (((3600000 + cc) * ((dLast fx (bfC h0 h1 tr.1 i) 0).toInt64 + (tr.1 7).toInt64)) * (dysI tr.1 (bfC h0 h1 tr.1) i).toInt64))), (14, .long (flo (((3600000 + cc) * ((dLast fx (bfC h0 h1 tr.1 i) 0).toInt64 + (tr.1 7).toInt64)) * (dysI tr.1 (bfC h0 h1 tr.1) i).toInt64))), (12, .long ((dLast fx (bfC h0 h1 tr.1 i) 0).toInt64 + (tr.1 7).toInt64)), (10, .long ((dysI tr.1 (bfC h0 h1 tr.1) i).toInt64)), (8, .long ((dLast fx (bfC h0 h1 tr.1 i) 0).toInt64)), (0, .ref x), (1, .int (nI t)), (2, .int (nI k))]) hx hb dX5_floats_144 hl (k := 6) rfl (nI_1 i) (by decide) rfl (fun ls hl => ?_)
        refine lv_goto (tgt := 8) hx hb dX5_floats_147 (by decide) ?_
        exact ih (i + 1) (flo (((3600000 + cc) * ((dLast fx (bfC h0 h1 tr.1 i) 0).toInt64 + (tr.1 7).toInt64)) * (dysI tr.1 (bfC h0 h1 tr.1) i).toInt64)) (cc + (flo (((3600000 + cc) * ((dLast fx (bfC h0 h1 tr.1 i) 0).toInt64 + (tr.1 7).toInt64)) * (dysI tr.1 (bfC h0 h1 tr.1) i).toInt64))) ls (by omega) (by rw [hc]; simp only [flS, rte, dysI_l]; rw [if_pos c1]) (fun j hj => by cases hj; (try rw [hc]); simp only [flS, rte, dysI_l]; rw [if_neg d9, if_pos c1, if_pos c1]) (lv_sub hl [0, 2, 1, 7, 8, 9] rfl)
  exact loop (k + 1) 0 0 0 ls (by omega) rfl (fun j hj => by omega) (lv_sub hl [0, 1, 2, 3, 4, 5] rfl)

set_option maxRecDepth 100000 in
set_option maxHeartbeats 4000000 in
/-- flowOf -/
theorem c_mflow (E : ET) (x : Nat) (sc : Nat → Int32) (ad : Nat → Nat) (ar : Nat → Nat → Int32) (h0 h1 fx : Dy) (ts : List TR) (B : BK) (t : Nat) (tr : TR) (k n : Nat) (H : Heap) (hX : MX E x sc ad ar H) (hI : MI sc ar h0 h1 fx ts B) (hV : SV h0 h1 fx ts) (ht : ts[t]? = some tr) (hn : tr.1 6 = nI n) (hnp : n ≤ 10) (hk : k < n) : PCon E yX5_flowOf cX5_flowOf 5 (some FieldType.long) 6 [.ref x, .int (nI t), .int (nI k)] H (some (.long (flwS tr.1 tr.2.1 (bfC h0 h1 tr.1) fx k))) := by
  refine PCon.of (C := RX5) rfl (by decide +kernel) (Nat.le_of_ble_eq_true rfl) ?_
  intro p e s m below meth co ls hx hb hr hlk hml hown hts hE hH hl
  have hl : lv_has ls 5 [(0, .ref x), (1, .int (nI t)), (2, .int (nI k))] := hl
  have hA10 : IA E 10 (ar 10) (ad 10) H := hX.2 10 rfl
  have hA9 : ZA E 10 (ar 9) (ad 9) H := hX.2 9 rfl
  have htl_ : t < 10 := by
    have := (List.getElem?_eq_some_iff.mp ht).1
    have := hV.2.2.2.2.2.2.2.1
    omega
  obtain ⟨pa_, lo_, f_, le_, n_, v1_, v2_, v3_, v4_, v5_, v6_, v7_, v8_, t0_, t1_, t2_, t4_, t5_, t6_, t8_, t9_, tb_, th_⟩ := hV.2.2.2.2.2.2.2.2 tr (List.mem_of_getElem? ht)
  have hF_ : ∀ j, j < 10 → ar (7 + j) t = tr.1 j := hI.2.2.2.2.2.1 t tr ht
  refine lv_aload_n hx hb dX5_flowOf_0 rfl (lv_at hl 0 rfl) ?_
  refine lv_iload_n hx hb dX5_flowOf_1 rfl (lv_at hl 1 rfl) ?_
  refine lv_iload_n hx hb dX5_flowOf_2 rfl (lv_at hl 2 rfl) ?_
  refine pV hx hb hml hts hown hE kwX5_147 (c_mfloats E x sc ad ar h0 h1 fx ts B t tr k n H hX hI hV ht hn hnp hk) hX.1 rfl (Nat.le_of_ble_eq_true rfl) rfl hl.1 rfl (Nat.le_of_ble_eq_true rfl) (Nat.le_refl _) (Nat.le_refl _) dX5_flowOf_3 ?_
  refine lv_aload_n hx hb dX5_flowOf_6 rfl (lv_at hl 0 rfl) ?_
  refine gf hx hb hts hown hE lkX5_32 hX.1 rfl dX5_flowOf_7 ?_
  refine lv_iload_n hx hb dX5_flowOf_10 rfl (lv_at hl 1 rfl) ?_
  refine aI hx hb hE hA10 rfl htl_ (by omega) (hF_ 3 (by omega)) dX5_flowOf_11 ?_
  refine lv_i2l hx hb dX5_flowOf_12 rfl ?_
  refine lv_aload_n hx hb dX5_flowOf_13 rfl (lv_at hl 0 rfl) ?_
  refine lv_iload_n hx hb dX5_flowOf_14 rfl (lv_at hl 1 rfl) ?_
  refine lv_iload_n hx hb dX5_flowOf_15 rfl (lv_at hl 2 rfl) ?_
  refine pV hx hb hml hts hown hE kwX5_138 (c_mdays E x sc ad ar h0 h1 fx ts B t tr k n H hX hI hV ht hn hnp hk) hX.1 rfl (Nat.le_of_ble_eq_true rfl) rfl hl.1 rfl (Nat.le_of_ble_eq_true rfl) (Nat.le_refl _) (Nat.le_refl _) dX5_flowOf_16 ?_
  refine lv_i2l hx hb dX5_flowOf_19 rfl ?_
  refine lv_lmul hx hb dX5_flowOf_20 ?_
  refine lv_lsub hx hb dX5_flowOf_21 ?_
  refine lv_lstore_n (lv' := [(3, .long (fltS tr.1 (bfC h0 h1 tr.1) fx k - ((tr.1 3).toInt64 * (dysI tr.1 (bfC h0 h1 tr.1) k).toInt64))), (0, .ref x), (1, .int (nI t)), (2, .int (nI k))]) hx hb dX5_flowOf_22 rfl hl (by decide) rfl (fun ls hl => ?_)
  refine lv_aload_n hx hb dX5_flowOf_23 rfl (lv_at hl 1 rfl) ?_
  refine lv_iload_n hx hb dX5_flowOf_24 rfl (lv_at hl 2 rfl) ?_
  refine lv_iload_n hx hb dX5_flowOf_25 rfl (lv_at hl 3 rfl) ?_
  refine pV hx hb hml hts hown hE kwX5_151 (c_mlots E x sc ad ar h0 h1 fx ts B t tr k n H hX hI hV ht hn hnp hk) hX.1 rfl (Nat.le_of_ble_eq_true rfl) rfl hl.1 rfl (Nat.le_of_ble_eq_true rfl) (Nat.le_refl _) (Nat.le_refl _) dX5_flowOf_26 ?_
  refine lv_i2l hx hb dX5_flowOf_29 rfl ?_
  refine lv_aload_n hx hb dX5_flowOf_30 rfl (lv_at hl 1 rfl) ?_
  refine gf hx hb hts hown hE lkX5_29 hX.1 rfl dX5_flowOf_31 ?_
  refine lv_iload_n hx hb dX5_flowOf_34 rfl (lv_at hl 2 rfl) ?_
  refine aZ hx hb hE hA9 rfl htl_ (by omega) (hF_ 2 (by omega)) dX5_flowOf_35 ?_
  refine lv_if_eq (tgt := 43) hx hb dX5_flowOf_36 (by decide) (fun c => ?_) (fun c => ?_)
  · refine lv_lload_n hx hb dX5_flowOf_43 rfl (lv_at hl 0 rfl) ?_
    refine lv_lneg hx hb dX5_flowOf_44 ?_
    refine lv_lmul hx hb dX5_flowOf_45 ?_
    exact pL hx hb hr hlk hH (by simp [flwS, gnS, c, dysI_l]) dX5_flowOf_46
  · refine lv_lload_n hx hb dX5_flowOf_39 rfl (lv_at hl 0 rfl) ?_
    refine lv_goto (tgt := 45) hx hb dX5_flowOf_40 (by decide) ?_
    refine lv_lmul hx hb dX5_flowOf_45 ?_
    exact pL hx hb hr hlk hH (by simp [flwS, gnS, c, dysI_l]) dX5_flowOf_46

set_option maxRecDepth 100000 in
set_option maxHeartbeats 4000000 in
/-- sum -/
theorem c_msum (E : ET) (x : Nat) (sc : Nat → Int32) (ad : Nat → Nat) (ar : Nat → Nat → Int32) (h0 h1 fx : Dy) (ts : List TR) (B : BK) (pa d1 d2 : Int32) (H : Heap) (hX : MX E x sc ad ar H) (hI : MI sc ar h0 h1 fx ts B) (hV : SV h0 h1 fx ts)  : PCon E yX5_sum cX5_sum 9 (some FieldType.long) 7 [.ref x, .int pa, .int d1, .int d2] H (some (.long (sumS h0 h1 fx pa d1 d2 0 ts))) := by
  refine PCon.of (C := RX5) rfl (by decide +kernel) (Nat.le_of_ble_eq_true rfl) ?_
  intro p e s m below meth co ls hx hb hr hlk hml hown hts hE hH hl
  have hl : lv_has ls 9 [(0, .ref x), (1, .int pa), (2, .int d1), (3, .int d2)] := hl
  have hA13 : IA E 10 (ar 13) (ad 13) H := hX.2 13 rfl
  have hn6 := hI.2.2.2.2.1
  refine lv_lconst (v := 0) hx hb dX5_sum_0 (by decide) ?_
  refine lv_lstore (lv' := [(4, .long 0), (0, .ref x), (1, .int pa), (2, .int d1), (3, .int d2)]) hx hb dX5_sum_1 hl (by decide) rfl (fun ls hl => ?_)
  refine lv_iconst (v := 0) hx hb dX5_sum_3 (by decide) ?_
  refine lv_istore (lv' := [(6, .int 0), (4, .long 0), (0, .ref x), (1, .int pa), (2, .int d1), (3, .int d2)]) hx hb dX5_sum_4 hl (by decide) rfl (fun ls hl => ?_)
  have htn := hV.2.2.2.2.2.2.2.1
  have loop : ∀ (us : List TR) (t : Nat) (v : Int64) (ls : Array Slot), ts.drop t = us → t ≤ ts.length → sumS h0 h1 fx pa d1 d2 0 ts = sumS h0 h1 fx pa d1 d2 v us → lv_has ls 9 [(6, .int (nI t)), (4, .long v), (0, .ref x), (1, .int pa), (2, .int d1), (3, .int d2)] → W p (eL E) e (rmk 7 0 0) s m ([.ref x, .int pa, .int d1, .int d2]).toArray below meth co H [] 0 0 (MQ below (PQ (some (.long (sumS h0 h1 fx pa d1 d2 0 ts)))) ([.ref x, .int pa, .int d1, .int d2]).toArray s 0 0 (fun _ => False)) (F0 m 6 ls []) := by
    intro us
    induction us with
    | nil =>
      intro t v ls hd hi he hl
      have hi2 := drop_n hd hi
      refine lv_iload hx hb dX5_sum_6 (lv_at hl 0 rfl) ?_
      refine lv_aload_n hx hb dX5_sum_8 rfl (lv_at hl 2 rfl) ?_
      refine gf hx hb hts hown hE lkX5_79 hX.1 rfl dX5_sum_9 ?_
      refine lv_icmp_ge (tgt := 93) hx hb dX5_sum_12 (by decide) (fun c => ?_) (fun c => ?_)
      rotate_left
      · exact absurd (by rw [hn6]; exact nI_le (by omega) (by omega)) c
      refine lv_lload hx hb dX5_sum_93 (lv_at hl 1 rfl) ?_
      exact pL hx hb hr hlk hH (by rw [he]; rfl) dX5_sum_95
    | cons tr us ih =>
      intro t v ls hd hi he hl
      obtain ⟨ht, hlt, hd2⟩ := drop_c hd
      have htl_ : t < 10 := by
        have := (List.getElem?_eq_some_iff.mp ht).1
        have := hV.2.2.2.2.2.2.2.1
        omega
      obtain ⟨pa_, lo_, f_, le_, n_, v1_, v2_, v3_, v4_, v5_, v6_, v7_, v8_, t0_, t1_, t2_, t4_, t5_, t6_, t8_, t9_, tb_, th_⟩ := hV.2.2.2.2.2.2.2.2 tr (List.mem_of_getElem? ht)
      have hF_ : ∀ j, j < 10 → ar (7 + j) t = tr.1 j := hI.2.2.2.2.2.1 t tr ht
      refine lv_iload hx hb dX5_sum_6 (lv_at hl 0 rfl) ?_
      refine lv_aload_n hx hb dX5_sum_8 rfl (lv_at hl 2 rfl) ?_
      refine gf hx hb hts hown hE lkX5_79 hX.1 rfl dX5_sum_9 ?_
      refine lv_icmp_ge (tgt := 93) hx hb dX5_sum_12 (by decide) (fun c => ?_) (fun c => ?_)
      · exact absurd c (by rw [hn6]; exact nI_ge hlt (by omega))
      refine lv_iconst (v := 0) hx hb dX5_sum_15 (by decide) ?_
      refine lv_istore (lv' := [(7, .int 0), (6, .int (nI t)), (4, .long v), (0, .ref x), (1, .int pa), (2, .int d1), (3, .int d2)]) hx hb dX5_sum_16 hl (by decide) rfl (fun ls hl => ?_)
      have loop2 : ∀ (q i : Nat) (ls : Array Slot), i + q = n_ → lv_has ls 9 [(7, .int (nI i)), (6, .int (nI t)), (4, .long (sumK h0 h1 fx pa d1 d2 tr v i)), (0, .ref x), (1, .int pa), (2, .int d1), (3, .int d2)] → W p (eL E) e (rmk 7 0 0) s m ([.ref x, .int pa, .int d1, .int d2]).toArray below meth co H [] 0 0 (MQ below (PQ (some (.long (sumS h0 h1 fx pa d1 d2 0 ts)))) ([.ref x, .int pa, .int d1, .int d2]).toArray s 0 0 (fun _ => False)) (F0 m 18 ls []) := by
        intro q
        induction q with
        | zero =>
          intro i ls hi2 hl
          have hi3 : i = n_ := by omega
          subst hi3
          refine lv_iload hx hb dX5_sum_18 (lv_at hl 0 rfl) ?_
          refine lv_aload_n hx hb dX5_sum_20 rfl (lv_at hl 3 rfl) ?_
          refine gf hx hb hts hown hE lkX5_41 hX.1 rfl dX5_sum_21 ?_
          refine lv_iload hx hb dX5_sum_24 (lv_at hl 1 rfl) ?_
          refine aI hx hb hE hA13 rfl htl_ (by omega) ((hF_ 6 (by omega)).trans t6_) dX5_sum_26 ?_
          refine lv_icmp_ge (tgt := 87) hx hb dX5_sum_27 (by decide) (fun c => ?_) (fun c => ?_)
          rotate_left
          · exact absurd (nI_le (Nat.le_refl _) (by omega)) c
          refine lv_iinc (v := nI (t + 1)) (lv' := [(6, .int (nI (t + 1))), (7, .int (nI i)), (4, .long (sumK h0 h1 fx pa d1 d2 tr v i)), (0, .ref x), (1, .int pa), (2, .int d1), (3, .int d2)]) hx hb dX5_sum_87 hl (k := 1) rfl (nI_1 t) (by decide) rfl (fun ls hl => ?_)
          refine lv_goto (tgt := 6) hx hb dX5_sum_90 (by decide) ?_
          exact ih (t + 1) _ ls hd2 (by omega) (he.trans (by simp only [sumS]; rw [t6_, nI_clamp (by omega)])) (lv_sub hl [0, 2, 3, 4, 5, 6] rfl)
        | succ q ih2 =>
          intro i ls hi2 hl
          refine lv_iload hx hb dX5_sum_18 (lv_at hl 0 rfl) ?_
          refine lv_aload_n hx hb dX5_sum_20 rfl (lv_at hl 3 rfl) ?_
          refine gf hx hb hts hown hE lkX5_41 hX.1 rfl dX5_sum_21 ?_
          refine lv_iload hx hb dX5_sum_24 (lv_at hl 1 rfl) ?_
          refine aI hx hb hE hA13 rfl htl_ (by omega) ((hF_ 6 (by omega)).trans t6_) dX5_sum_26 ?_
          refine lv_icmp_ge (tgt := 87) hx hb dX5_sum_27 (by decide) (fun c => ?_) (fun c => ?_)
          · exact absurd c (nI_ge (by omega) (by omega))
          refine lv_aload_n hx hb dX5_sum_30 rfl (lv_at hl 3 rfl) ?_
          refine lv_iload hx hb dX5_sum_31 (lv_at hl 1 rfl) ?_
          refine lv_iload hx hb dX5_sum_33 (lv_at hl 0 rfl) ?_
          refine lv_iconst (v := 1) hx hb dX5_sum_35 (by decide) ?_
          refine lv_iadd hx hb dX5_sum_36 ?_
          rw [show nI i + 1 = nI (i + 1) from nI_1 i]
          refine pV hx hb hml hts hown hE kwX5_128 (c_beg E x sc ad ar h0 h1 fx ts B t tr (i + 1) n_ H hX hI hV ht t6_ (by omega) (by omega)) hX.1 rfl (Nat.le_of_ble_eq_true rfl) rfl hl.1 rfl (Nat.le_of_ble_eq_true rfl) (Nat.le_refl _) (Nat.le_refl _) dX5_sum_37 ?_
          refine lv_istore (lv' := [(8, .int (bfC h0 h1 tr.1 (i + 1))), (7, .int (nI i)), (6, .int (nI t)), (4, .long (sumK h0 h1 fx pa d1 d2 tr v i)), (0, .ref x), (1, .int pa), (2, .int d1), (3, .int d2)]) hx hb dX5_sum_40 hl (by decide) rfl (fun ls hl => ?_)
          refine lv_lload hx hb dX5_sum_42 (lv_at hl 3 rfl) ?_
          refine lv_iload hx hb dX5_sum_44 (lv_at hl 0 rfl) ?_
          refine lv_iload_n hx hb dX5_sum_46 rfl (lv_at hl 6 rfl) ?_
          refine lv_iload_n hx hb dX5_sum_47 rfl (lv_at hl 7 rfl) ?_
          refine pS hx hb hml hts hown hE kwX5_75 (c_in E (bfC h0 h1 tr.1 (i + 1)) d1 d2 H) (Nat.le_of_ble_eq_true rfl) rfl hl.1 rfl (Nat.le_of_ble_eq_true rfl) (Nat.le_refl _) (Nat.le_refl _) dX5_sum_48 ?_
          have es : sumK h0 h1 fx pa d1 d2 tr v (i + 1) = sumK h0 h1 fx pa d1 d2 tr v i + (if inB (bfC h0 h1 tr.1 (i + 1)) d1 d2 = true ∧ hldS tr.1 tr.2.2 (bfC h0 h1 tr.1 (i + 1)) = pa then flwS tr.1 tr.2.1 (bfC h0 h1 tr.1) fx i else 0) := rfl
          cases c5 : inB (bfC h0 h1 tr.1 (i + 1)) d1 d2 with
          | false =>
            refine lv_if_eq (tgt := 77) hx hb dX5_sum_51 (by decide) (fun c6 => ?_) (fun c6 => ?_)
            rotate_left
            · exact absurd (by decide) c6
            refine lv_lconst (v := 0) hx hb dX5_sum_77 (by decide) ?_
            refine lv_ladd hx hb dX5_sum_78 ?_
            refine lv_lstore (lv' := [(4, .long (sumK h0 h1 fx pa d1 d2 tr v i + 0)), (8, .int (bfC h0 h1 tr.1 (i + 1))), (7, .int (nI i)), (6, .int (nI t)), (0, .ref x), (1, .int pa), (2, .int d1), (3, .int d2)]) hx hb dX5_sum_79 hl (by decide) rfl (fun ls hl => ?_)
            refine lv_iinc (v := nI (i + 1)) (lv' := [(7, .int (nI (i + 1))), (4, .long (sumK h0 h1 fx pa d1 d2 tr v i + 0)), (8, .int (bfC h0 h1 tr.1 (i + 1))), (6, .int (nI t)), (0, .ref x), (1, .int pa), (2, .int d1), (3, .int d2)]) hx hb dX5_sum_81 hl (k := 2) rfl (nI_1 i) (by decide) rfl (fun ls hl => ?_)
            refine lv_goto (tgt := 18) hx hb dX5_sum_84 (by decide) ?_
            refine ih2 (i + 1) ls (by omega) ?_
            rw [es, if_neg (fun q => absurd (c5.symm.trans q.1) (by decide))]
            exact (lv_sub hl [0, 3, 1, 4, 5, 6, 7] rfl)
          | true =>
            refine lv_if_eq (tgt := 77) hx hb dX5_sum_51 (by decide) (fun c6 => ?_) (fun c6 => ?_)
            · exact absurd c6 (by decide)
            refine lv_aload_n hx hb dX5_sum_54 rfl (lv_at hl 4 rfl) ?_
            refine lv_iload hx hb dX5_sum_55 (lv_at hl 2 rfl) ?_
            refine lv_iload hx hb dX5_sum_57 (lv_at hl 0 rfl) ?_
            refine pV hx hb hml hts hown hE kwX5_125 (c_mparty E x sc ad ar h0 h1 fx ts B t tr (bfC h0 h1 tr.1 (i + 1)) H hX hI hV ht) hX.1 rfl (Nat.le_of_ble_eq_true rfl) rfl hl.1 rfl (Nat.le_of_ble_eq_true rfl) (Nat.le_refl _) (Nat.le_refl _) dX5_sum_59 ?_
            refine lv_iload_n hx hb dX5_sum_62 rfl (lv_at hl 5 rfl) ?_
            refine lv_icmp_ne (tgt := 77) hx hb dX5_sum_63 (by decide) (fun c7 => ?_) (fun c7 => ?_)
            · refine lv_lconst (v := 0) hx hb dX5_sum_77 (by decide) ?_
              refine lv_ladd hx hb dX5_sum_78 ?_
              refine lv_lstore (lv' := [(4, .long (sumK h0 h1 fx pa d1 d2 tr v i + 0)), (8, .int (bfC h0 h1 tr.1 (i + 1))), (7, .int (nI i)), (6, .int (nI t)), (0, .ref x), (1, .int pa), (2, .int d1), (3, .int d2)]) hx hb dX5_sum_79 hl (by decide) rfl (fun ls hl => ?_)
              refine lv_iinc (v := nI (i + 1)) (lv' := [(7, .int (nI (i + 1))), (4, .long (sumK h0 h1 fx pa d1 d2 tr v i + 0)), (8, .int (bfC h0 h1 tr.1 (i + 1))), (6, .int (nI t)), (0, .ref x), (1, .int pa), (2, .int d1), (3, .int d2)]) hx hb dX5_sum_81 hl (k := 2) rfl (nI_1 i) (by decide) rfl (fun ls hl => ?_)
              refine lv_goto (tgt := 18) hx hb dX5_sum_84 (by decide) ?_
              refine ih2 (i + 1) ls (by omega) ?_
              rw [es, if_neg (fun q => c7 q.2)]
              exact (lv_sub hl [0, 3, 1, 4, 5, 6, 7] rfl)
            · refine lv_aload_n hx hb dX5_sum_66 rfl (lv_at hl 4 rfl) ?_
              refine lv_iload hx hb dX5_sum_67 (lv_at hl 2 rfl) ?_
              refine lv_iload hx hb dX5_sum_69 (lv_at hl 1 rfl) ?_
              refine pV hx hb hml hts hown hE kwX5_157 (c_mflow E x sc ad ar h0 h1 fx ts B t tr i n_ H hX hI hV ht t6_ (by omega) (by omega)) hX.1 rfl (Nat.le_of_ble_eq_true rfl) rfl hl.1 rfl (Nat.le_of_ble_eq_true rfl) (Nat.le_refl _) (Nat.le_refl _) dX5_sum_71 ?_
              refine lv_goto (tgt := 78) hx hb dX5_sum_74 (by decide) ?_
              refine lv_ladd hx hb dX5_sum_78 ?_
              refine lv_lstore (lv' := [(4, .long (sumK h0 h1 fx pa d1 d2 tr v i + flwS tr.1 tr.2.1 (bfC h0 h1 tr.1) fx i)), (8, .int (bfC h0 h1 tr.1 (i + 1))), (7, .int (nI i)), (6, .int (nI t)), (0, .ref x), (1, .int pa), (2, .int d1), (3, .int d2)]) hx hb dX5_sum_79 hl (by decide) rfl (fun ls hl => ?_)
              refine lv_iinc (v := nI (i + 1)) (lv' := [(7, .int (nI (i + 1))), (4, .long (sumK h0 h1 fx pa d1 d2 tr v i + flwS tr.1 tr.2.1 (bfC h0 h1 tr.1) fx i)), (8, .int (bfC h0 h1 tr.1 (i + 1))), (6, .int (nI t)), (0, .ref x), (1, .int pa), (2, .int d1), (3, .int d2)]) hx hb dX5_sum_81 hl (k := 2) rfl (nI_1 i) (by decide) rfl (fun ls hl => ?_)
              refine lv_goto (tgt := 18) hx hb dX5_sum_84 (by decide) ?_
              refine ih2 (i + 1) ls (by omega) ?_
              rw [es, if_pos ⟨c5, c7⟩]
              exact (lv_sub hl [0, 3, 1, 4, 5, 6, 7] rfl)
      exact loop2 n_ 0 ls (by omega) (lv_sub hl [0, 1, 2, 3, 4, 5, 6] rfl)
  exact loop ts 0 0 ls rfl (Nat.zero_le _) rfl (lv_sub hl [0, 1, 2, 3, 4, 5] rfl)
end
section
set_option maxRecDepth 100000 in
set_option maxHeartbeats 4000000 in
/-- areLike -/
theorem c_like (E : ET) (x : Nat) (sc : Nat → Int32) (ad : Nat → Nat) (ar : Nat → Nat → Int32) (h0 h1 fx : Dy) (ts : List TR) (B : BK) (t u : Nat) (tr ur : TR) (H : Heap) (hX : MX E x sc ad ar H) (hI : MI sc ar h0 h1 fx ts B) (hV : SV h0 h1 fx ts) (ht : ts[t]? = some tr) (hu : ts[u]? = some ur) : PCon E yX5_areLike cX5_areLike 4 (some FieldType.boolean) 1 [.ref x, .int (nI t), .int (nI u)] H (some (.int (if fitS tr.1 ur.1 then 1 else 0))) := by
  refine PCon.of (C := RX5) rfl (by decide +kernel) (Nat.le_of_ble_eq_true rfl) ?_
  intro p e s m below meth co ls hx hb hr hlk hml hown hts hE hH hl
  have hl : lv_has ls 4 [(0, .ref x), (1, .int (nI t)), (2, .int (nI u))] := hl
  have hA9 : ZA E 10 (ar 9) (ad 9) H := hX.2 9 rfl
  have hA10 : IA E 10 (ar 10) (ad 10) H := hX.2 10 rfl
  have hA11 : IA E 10 (ar 11) (ad 11) H := hX.2 11 rfl
  have hA12 : IA E 10 (ar 12) (ad 12) H := hX.2 12 rfl
  have hA13 : IA E 10 (ar 13) (ad 13) H := hX.2 13 rfl
  have hA14 : IA E 10 (ar 14) (ad 14) H := hX.2 14 rfl
  have hA15 : IA E 10 (ar 15) (ad 15) H := hX.2 15 rfl
  have hA16 : IA E 10 (ar 16) (ad 16) H := hX.2 16 rfl
  have htl_ : t < 10 := by
    have := (List.getElem?_eq_some_iff.mp ht).1
    have := hV.2.2.2.2.2.2.2.1
    omega
  obtain ⟨pa_, lo_, f_, le_, n_, v1_, v2_, v3_, v4_, v5_, v6_, v7_, v8_, t0_, t1_, t2_, t4_, t5_, t6_, t8_, t9_, tb_, th_⟩ := hV.2.2.2.2.2.2.2.2 tr (List.mem_of_getElem? ht)
  have hF_ : ∀ j, j < 10 → ar (7 + j) t = tr.1 j := hI.2.2.2.2.2.1 t tr ht
  have htl9 : u < 10 := by
    have := (List.getElem?_eq_some_iff.mp hu).1
    have := hV.2.2.2.2.2.2.2.1
    omega
  obtain ⟨pa9, lo9, f9, le9, n9, v19, v29, v39, v49, v59, v69, v79, v89, t09, t19, t29, t49, t59, t69, t89, t99, tb9, th9⟩ := hV.2.2.2.2.2.2.2.2 ur (List.mem_of_getElem? hu)
  have hF9 : ∀ j, j < 10 → ar (7 + j) u = ur.1 j := hI.2.2.2.2.2.1 u ur hu
  refine lv_aload_n hx hb dX5_areLike_0 rfl (lv_at hl 0 rfl) ?_
  refine gf hx hb hts hown hE lkX5_32 hX.1 rfl dX5_areLike_1 ?_
  refine lv_iload_n hx hb dX5_areLike_4 rfl (lv_at hl 1 rfl) ?_
  refine aI hx hb hE hA10 rfl htl_ (by omega) (hF_ 3 (by omega)) dX5_areLike_5 ?_
  refine lv_aload_n hx hb dX5_areLike_6 rfl (lv_at hl 0 rfl) ?_
  refine gf hx hb hts hown hE lkX5_32 hX.1 rfl dX5_areLike_7 ?_
  refine lv_iload_n hx hb dX5_areLike_10 rfl (lv_at hl 2 rfl) ?_
  refine aI hx hb hE hA10 rfl htl9 (by omega) (hF9 3 (by omega)) dX5_areLike_11 ?_
  refine lv_icmp_ne (tgt := 64) hx hb dX5_areLike_12 (by decide) (fun c3 => ?_) (fun c3 => ?_)
  · refine lv_iconst (v := 0) hx hb dX5_areLike_64 (by decide) ?_
    refine lv_istore_n (lv' := [(3, .int 0), (0, .ref x), (1, .int (nI t)), (2, .int (nI u))]) hx hb dX5_areLike_65 rfl hl (by decide) rfl (fun ls hl => ?_)
    refine lv_iload_n hx hb dX5_areLike_66 rfl (lv_at hl 0 rfl) ?_
    refine lv_if_eq (tgt := 134) hx hb dX5_areLike_67 (by decide) (fun c0 => ?_) (fun c0 => ?_)
    rotate_left
    · exact absurd (by decide) c0
    refine lv_iconst (v := 0) hx hb dX5_areLike_134 (by decide) ?_
    exact pZ hx hb hr hlk hH (by simp [fitS, c3]) dX5_areLike_135
  · refine lv_aload_n hx hb dX5_areLike_15 rfl (lv_at hl 0 rfl) ?_
    refine gf hx hb hts hown hE lkX5_44 hX.1 rfl dX5_areLike_16 ?_
    refine lv_iload_n hx hb dX5_areLike_19 rfl (lv_at hl 1 rfl) ?_
    refine aI hx hb hE hA14 rfl htl_ (by omega) (hF_ 7 (by omega)) dX5_areLike_20 ?_
    refine lv_aload_n hx hb dX5_areLike_21 rfl (lv_at hl 0 rfl) ?_
    refine gf hx hb hts hown hE lkX5_44 hX.1 rfl dX5_areLike_22 ?_
    refine lv_iload_n hx hb dX5_areLike_25 rfl (lv_at hl 2 rfl) ?_
    refine aI hx hb hE hA14 rfl htl9 (by omega) (hF9 7 (by omega)) dX5_areLike_26 ?_
    refine lv_icmp_ne (tgt := 64) hx hb dX5_areLike_27 (by decide) (fun c7 => ?_) (fun c7 => ?_)
    · refine lv_iconst (v := 0) hx hb dX5_areLike_64 (by decide) ?_
      refine lv_istore_n (lv' := [(3, .int 0), (0, .ref x), (1, .int (nI t)), (2, .int (nI u))]) hx hb dX5_areLike_65 rfl hl (by decide) rfl (fun ls hl => ?_)
      refine lv_iload_n hx hb dX5_areLike_66 rfl (lv_at hl 0 rfl) ?_
      refine lv_if_eq (tgt := 134) hx hb dX5_areLike_67 (by decide) (fun c0 => ?_) (fun c0 => ?_)
      rotate_left
      · exact absurd (by decide) c0
      refine lv_iconst (v := 0) hx hb dX5_areLike_134 (by decide) ?_
      exact pZ hx hb hr hlk hH (by simp [fitS, c3, c7]) dX5_areLike_135
    · refine lv_aload_n hx hb dX5_areLike_30 rfl (lv_at hl 0 rfl) ?_
      refine gf hx hb hts hown hE lkX5_35 hX.1 rfl dX5_areLike_31 ?_
      refine lv_iload_n hx hb dX5_areLike_34 rfl (lv_at hl 1 rfl) ?_
      refine aI hx hb hE hA11 rfl htl_ (by omega) (hF_ 4 (by omega)) dX5_areLike_35 ?_
      refine lv_aload_n hx hb dX5_areLike_36 rfl (lv_at hl 0 rfl) ?_
      refine gf hx hb hts hown hE lkX5_35 hX.1 rfl dX5_areLike_37 ?_
      refine lv_iload_n hx hb dX5_areLike_40 rfl (lv_at hl 2 rfl) ?_
      refine aI hx hb hE hA11 rfl htl9 (by omega) (hF9 4 (by omega)) dX5_areLike_41 ?_
      refine lv_icmp_ne (tgt := 64) hx hb dX5_areLike_42 (by decide) (fun c4 => ?_) (fun c4 => ?_)
      · refine lv_iconst (v := 0) hx hb dX5_areLike_64 (by decide) ?_
        refine lv_istore_n (lv' := [(3, .int 0), (0, .ref x), (1, .int (nI t)), (2, .int (nI u))]) hx hb dX5_areLike_65 rfl hl (by decide) rfl (fun ls hl => ?_)
        refine lv_iload_n hx hb dX5_areLike_66 rfl (lv_at hl 0 rfl) ?_
        refine lv_if_eq (tgt := 134) hx hb dX5_areLike_67 (by decide) (fun c0 => ?_) (fun c0 => ?_)
        rotate_left
        · exact absurd (by decide) c0
        refine lv_iconst (v := 0) hx hb dX5_areLike_134 (by decide) ?_
        exact pZ hx hb hr hlk hH (by simp [fitS, c3, c7, c4]) dX5_areLike_135
      · refine lv_aload_n hx hb dX5_areLike_45 rfl (lv_at hl 0 rfl) ?_
        refine gf hx hb hts hown hE lkX5_38 hX.1 rfl dX5_areLike_46 ?_
        refine lv_iload_n hx hb dX5_areLike_49 rfl (lv_at hl 1 rfl) ?_
        refine aI hx hb hE hA12 rfl htl_ (by omega) (hF_ 5 (by omega)) dX5_areLike_50 ?_
        refine lv_aload_n hx hb dX5_areLike_51 rfl (lv_at hl 0 rfl) ?_
        refine gf hx hb hts hown hE lkX5_38 hX.1 rfl dX5_areLike_52 ?_
        refine lv_iload_n hx hb dX5_areLike_55 rfl (lv_at hl 2 rfl) ?_
        refine aI hx hb hE hA12 rfl htl9 (by omega) (hF9 5 (by omega)) dX5_areLike_56 ?_
        refine lv_icmp_ne (tgt := 64) hx hb dX5_areLike_57 (by decide) (fun c5 => ?_) (fun c5 => ?_)
        · refine lv_iconst (v := 0) hx hb dX5_areLike_64 (by decide) ?_
          refine lv_istore_n (lv' := [(3, .int 0), (0, .ref x), (1, .int (nI t)), (2, .int (nI u))]) hx hb dX5_areLike_65 rfl hl (by decide) rfl (fun ls hl => ?_)
          refine lv_iload_n hx hb dX5_areLike_66 rfl (lv_at hl 0 rfl) ?_
          refine lv_if_eq (tgt := 134) hx hb dX5_areLike_67 (by decide) (fun c0 => ?_) (fun c0 => ?_)
          rotate_left
          · exact absurd (by decide) c0
          refine lv_iconst (v := 0) hx hb dX5_areLike_134 (by decide) ?_
          exact pZ hx hb hr hlk hH (by simp [fitS, c3, c7, c4, c5]) dX5_areLike_135
        · refine lv_iconst (v := 1) hx hb dX5_areLike_60 (by decide) ?_
          refine lv_goto (tgt := 65) hx hb dX5_areLike_61 (by decide) ?_
          refine lv_istore_n (lv' := [(3, .int 1), (0, .ref x), (1, .int (nI t)), (2, .int (nI u))]) hx hb dX5_areLike_65 rfl hl (by decide) rfl (fun ls hl => ?_)
          refine lv_iload_n hx hb dX5_areLike_66 rfl (lv_at hl 0 rfl) ?_
          refine lv_if_eq (tgt := 134) hx hb dX5_areLike_67 (by decide) (fun c0 => ?_) (fun c0 => ?_)
          · exact absurd c0 (by decide)
          refine lv_aload_n hx hb dX5_areLike_70 rfl (lv_at hl 1 rfl) ?_
          refine gf hx hb hts hown hE lkX5_41 hX.1 rfl dX5_areLike_71 ?_
          refine lv_iload_n hx hb dX5_areLike_74 rfl (lv_at hl 2 rfl) ?_
          refine aI hx hb hE hA13 rfl htl_ (by omega) (hF_ 6 (by omega)) dX5_areLike_75 ?_
          refine lv_aload_n hx hb dX5_areLike_76 rfl (lv_at hl 1 rfl) ?_
          refine gf hx hb hts hown hE lkX5_41 hX.1 rfl dX5_areLike_77 ?_
          refine lv_iload_n hx hb dX5_areLike_80 rfl (lv_at hl 3 rfl) ?_
          refine aI hx hb hE hA13 rfl htl9 (by omega) (hF9 6 (by omega)) dX5_areLike_81 ?_
          refine lv_icmp_ne (tgt := 134) hx hb dX5_areLike_82 (by decide) (fun c6 => ?_) (fun c6 => ?_)
          · refine lv_iconst (v := 0) hx hb dX5_areLike_134 (by decide) ?_
            exact pZ hx hb hr hlk hH (by simp [fitS, c3, c7, c4, c5, c6]) dX5_areLike_135
          · refine lv_aload_n hx hb dX5_areLike_85 rfl (lv_at hl 1 rfl) ?_
            refine gf hx hb hts hown hE lkX5_47 hX.1 rfl dX5_areLike_86 ?_
            refine lv_iload_n hx hb dX5_areLike_89 rfl (lv_at hl 2 rfl) ?_
            refine aI hx hb hE hA15 rfl htl_ (by omega) (hF_ 8 (by omega)) dX5_areLike_90 ?_
            refine lv_aload_n hx hb dX5_areLike_91 rfl (lv_at hl 1 rfl) ?_
            refine gf hx hb hts hown hE lkX5_47 hX.1 rfl dX5_areLike_92 ?_
            refine lv_iload_n hx hb dX5_areLike_95 rfl (lv_at hl 3 rfl) ?_
            refine aI hx hb hE hA15 rfl htl9 (by omega) (hF9 8 (by omega)) dX5_areLike_96 ?_
            refine lv_icmp_ne (tgt := 134) hx hb dX5_areLike_97 (by decide) (fun c8 => ?_) (fun c8 => ?_)
            · refine lv_iconst (v := 0) hx hb dX5_areLike_134 (by decide) ?_
              exact pZ hx hb hr hlk hH (by simp [fitS, c3, c7, c4, c5, c6, c8]) dX5_areLike_135
            · refine lv_aload_n hx hb dX5_areLike_100 rfl (lv_at hl 1 rfl) ?_
              refine gf hx hb hts hown hE lkX5_50 hX.1 rfl dX5_areLike_101 ?_
              refine lv_iload_n hx hb dX5_areLike_104 rfl (lv_at hl 2 rfl) ?_
              refine aI hx hb hE hA16 rfl htl_ (by omega) (hF_ 9 (by omega)) dX5_areLike_105 ?_
              refine lv_aload_n hx hb dX5_areLike_106 rfl (lv_at hl 1 rfl) ?_
              refine gf hx hb hts hown hE lkX5_50 hX.1 rfl dX5_areLike_107 ?_
              refine lv_iload_n hx hb dX5_areLike_110 rfl (lv_at hl 3 rfl) ?_
              refine aI hx hb hE hA16 rfl htl9 (by omega) (hF9 9 (by omega)) dX5_areLike_111 ?_
              refine lv_icmp_ne (tgt := 134) hx hb dX5_areLike_112 (by decide) (fun c9 => ?_) (fun c9 => ?_)
              · refine lv_iconst (v := 0) hx hb dX5_areLike_134 (by decide) ?_
                exact pZ hx hb hr hlk hH (by simp [fitS, c3, c7, c4, c5, c6, c8, c9]) dX5_areLike_135
              · refine lv_aload_n hx hb dX5_areLike_115 rfl (lv_at hl 1 rfl) ?_
                refine gf hx hb hts hown hE lkX5_29 hX.1 rfl dX5_areLike_116 ?_
                refine lv_iload_n hx hb dX5_areLike_119 rfl (lv_at hl 2 rfl) ?_
                refine aZ hx hb hE hA9 rfl htl_ (by omega) (hF_ 2 (by omega)) dX5_areLike_120 ?_
                refine lv_aload_n hx hb dX5_areLike_121 rfl (lv_at hl 1 rfl) ?_
                refine gf hx hb hts hown hE lkX5_29 hX.1 rfl dX5_areLike_122 ?_
                refine lv_iload_n hx hb dX5_areLike_125 rfl (lv_at hl 3 rfl) ?_
                refine aZ hx hb hE hA9 rfl htl9 (by omega) (hF9 2 (by omega)) dX5_areLike_126 ?_
                refine lv_icmp_eq (tgt := 134) hx hb dX5_areLike_127 (by decide) (fun c2 => ?_) (fun c2 => ?_)
                · refine lv_iconst (v := 0) hx hb dX5_areLike_134 (by decide) ?_
                  exact pZ hx hb hr hlk hH (by simp [fitS, c3, c7, c4, c5, c6, c8, c9, c2]) dX5_areLike_135
                · refine lv_iconst (v := 1) hx hb dX5_areLike_130 (by decide) ?_
                  refine lv_goto (tgt := 135) hx hb dX5_areLike_131 (by decide) ?_
                  exact pZ hx hb hr hlk hH (by simp [fitS, c3, c7, c4, c5, c6, c8, c9, c2]) dX5_areLike_135

set_option maxRecDepth 100000 in
set_option maxHeartbeats 4000000 in
/-- haveOneParty -/
theorem c_one (E : ET) (x : Nat) (sc : Nat → Int32) (ad : Nat → Nat) (ar : Nat → Nat → Int32) (h0 h1 fx : Dy) (ts : List TR) (B : BK) (t u : Nat) (tr ur : TR) (day : Int32) (H : Heap) (hX : MX E x sc ad ar H) (hI : MI sc ar h0 h1 fx ts B) (hV : SV h0 h1 fx ts) (ht : ts[t]? = some tr) (hu : ts[u]? = some ur) : PCon E yX5_haveOneParty cX5_haveOneParty 7 (some FieldType.boolean) 4 [.ref x, .int (nI t), .int (nI u), .int day] H (some (.int (if smeS tr.1 ur.1 tr.2.2 ur.2.2 (bfC h0 h1 tr.1) day (tr.1 6).toNatClampNeg then 1 else 0))) := by
  refine PCon.of (C := RX5) rfl (by decide +kernel) (Nat.le_of_ble_eq_true rfl) ?_
  intro p e s m below meth co ls hx hb hr hlk hml hown hts hE hH hl
  have hl : lv_has ls 7 [(0, .ref x), (1, .int (nI t)), (2, .int (nI u)), (3, .int day)] := hl
  have hA13 : IA E 10 (ar 13) (ad 13) H := hX.2 13 rfl
  have htl_ : t < 10 := by
    have := (List.getElem?_eq_some_iff.mp ht).1
    have := hV.2.2.2.2.2.2.2.1
    omega
  obtain ⟨pa_, lo_, f_, le_, n_, v1_, v2_, v3_, v4_, v5_, v6_, v7_, v8_, t0_, t1_, t2_, t4_, t5_, t6_, t8_, t9_, tb_, th_⟩ := hV.2.2.2.2.2.2.2.2 tr (List.mem_of_getElem? ht)
  have hF_ : ∀ j, j < 10 → ar (7 + j) t = tr.1 j := hI.2.2.2.2.2.1 t tr ht
  have en : (tr.1 6).toNatClampNeg = n_ := by rw [t6_, nI_clamp (by omega)]
  rw [en]
  refine lv_iconst (v := 0) hx hb dX5_haveOneParty_0 (by decide) ?_
  refine lv_istore (lv' := [(4, .int 0), (0, .ref x), (1, .int (nI t)), (2, .int (nI u)), (3, .int day)]) hx hb dX5_haveOneParty_1 hl (by decide) rfl (fun ls hl => ?_)
  refine lv_iconst (v := 1) hx hb dX5_haveOneParty_3 (by decide) ?_
  refine lv_istore (lv' := [(5, .int 1), (4, .int 0), (0, .ref x), (1, .int (nI t)), (2, .int (nI u)), (3, .int day)]) hx hb dX5_haveOneParty_4 hl (by decide) rfl (fun ls hl => ?_)
  refine lv_iconst (v := 0) hx hb dX5_haveOneParty_6 (by decide) ?_
  refine lv_istore (lv' := [(6, .int 0), (5, .int 1), (4, .int 0), (0, .ref x), (1, .int (nI t)), (2, .int (nI u)), (3, .int day)]) hx hb dX5_haveOneParty_7 hl (by decide) rfl (fun ls hl => ?_)
  have loop : ∀ (q i c : Nat) (ls : Array Slot), i + q = n_ → c ≤ i → (0 < c ↔ (smpS tr.1 ur.1 tr.2.2 ur.2.2 (bfC h0 h1 tr.1) day i).1 = true) → lv_has ls 7 [(6, .int (nI i)), (5, .int (if (smpS tr.1 ur.1 tr.2.2 ur.2.2 (bfC h0 h1 tr.1) day i).2 then 1 else 0)), (4, .int (nI c)), (0, .ref x), (1, .int (nI t)), (2, .int (nI u)), (3, .int day)] → W p (eL E) e (rmk 4 0 0) s m ([.ref x, .int (nI t), .int (nI u), .int day]).toArray below meth co H [] 0 0 (MQ below (PQ (some (.int (if smeS tr.1 ur.1 tr.2.2 ur.2.2 (bfC h0 h1 tr.1) day n_ then 1 else 0)))) ([.ref x, .int (nI t), .int (nI u), .int day]).toArray s 0 0 (fun _ => False)) (F0 m 9 ls []) := by
    intro q
    induction q with
    | zero =>
      intro i c ls hi hc9 hc hl
      have hi2 : i = n_ := by omega
      subst hi2
      refine lv_iload hx hb dX5_haveOneParty_9 (lv_at hl 0 rfl) ?_
      refine lv_aload_n hx hb dX5_haveOneParty_11 rfl (lv_at hl 3 rfl) ?_
      refine gf hx hb hts hown hE lkX5_41 hX.1 rfl dX5_haveOneParty_12 ?_
      refine lv_iload_n hx hb dX5_haveOneParty_15 rfl (lv_at hl 4 rfl) ?_
      refine aI hx hb hE hA13 rfl htl_ (by omega) ((hF_ 6 (by omega)).trans t6_) dX5_haveOneParty_16 ?_
      refine lv_icmp_ge (tgt := 83) hx hb dX5_haveOneParty_17 (by decide) (fun c1 => ?_) (fun c1 => ?_)
      rotate_left
      · exact absurd (nI_le (Nat.le_refl _) (by omega)) c1
      refine lv_iload hx hb dX5_haveOneParty_83 (lv_at hl 1 rfl) ?_
      cases cs : (smpS tr.1 ur.1 tr.2.2 ur.2.2 (bfC h0 h1 tr.1) day i).2 with
      | false =>
        refine lv_if_eq (tgt := 97) hx hb dX5_haveOneParty_85 (by decide) (fun c2 => ?_) (fun c2 => ?_)
        rotate_left
        · exact absurd (by decide) c2
        refine lv_iconst (v := 0) hx hb dX5_haveOneParty_97 (by decide) ?_
        exact pZ hx hb hr hlk hH (by simp [smeS, cs]) dX5_haveOneParty_98
      | true =>
        refine lv_if_eq (tgt := 97) hx hb dX5_haveOneParty_85 (by decide) (fun c2 => ?_) (fun c2 => ?_)
        · exact absurd c2 (by decide)
        refine lv_iload hx hb dX5_haveOneParty_88 (lv_at hl 2 rfl) ?_
        refine lv_if_le (tgt := 97) hx hb dX5_haveOneParty_90 (by decide) (fun c3 => ?_) (fun c3 => ?_)
        · have c0 : (smpS tr.1 ur.1 tr.2.2 ur.2.2 (bfC h0 h1 tr.1) day i).1 = false := by
            cases q9 : (smpS tr.1 ur.1 tr.2.2 ur.2.2 (bfC h0 h1 tr.1) day i).1 with
            | false => rfl
            | true => exact absurd c3 (nI_nle (hc.mpr q9) (by omega))
          refine lv_iconst (v := 0) hx hb dX5_haveOneParty_97 (by decide) ?_
          exact pZ hx hb hr hlk hH (by simp [smeS, c0]) dX5_haveOneParty_98
        · have c0 : 0 < c := by
            rcases Nat.eq_zero_or_pos c with q | q
            · subst q; exact absurd (by decide) c3
            · exact q
          refine lv_iconst (v := 1) hx hb dX5_haveOneParty_93 (by decide) ?_
          refine lv_goto (tgt := 98) hx hb dX5_haveOneParty_94 (by decide) ?_
          exact pZ hx hb hr hlk hH (by simp [smeS, cs, hc.mp c0]) dX5_haveOneParty_98
    | succ q ih =>
      intro i c ls hi hc9 hc hl
      refine lv_iload hx hb dX5_haveOneParty_9 (lv_at hl 0 rfl) ?_
      refine lv_aload_n hx hb dX5_haveOneParty_11 rfl (lv_at hl 3 rfl) ?_
      refine gf hx hb hts hown hE lkX5_41 hX.1 rfl dX5_haveOneParty_12 ?_
      refine lv_iload_n hx hb dX5_haveOneParty_15 rfl (lv_at hl 4 rfl) ?_
      refine aI hx hb hE hA13 rfl htl_ (by omega) ((hF_ 6 (by omega)).trans t6_) dX5_haveOneParty_16 ?_
      refine lv_icmp_ge (tgt := 83) hx hb dX5_haveOneParty_17 (by decide) (fun c1 => ?_) (fun c1 => ?_)
      · exact absurd c1 (nI_ge (by omega) (by omega))
      refine lv_aload_n hx hb dX5_haveOneParty_20 rfl (lv_at hl 3 rfl) ?_
      refine lv_iload_n hx hb dX5_haveOneParty_21 rfl (lv_at hl 4 rfl) ?_
      refine lv_iload hx hb dX5_haveOneParty_22 (lv_at hl 0 rfl) ?_
      refine pV hx hb hml hts hown hE kwX5_128 (c_beg E x sc ad ar h0 h1 fx ts B t tr i n_ H hX hI hV ht t6_ (by omega) (by omega)) hX.1 rfl (Nat.le_of_ble_eq_true rfl) rfl hl.1 rfl (Nat.le_of_ble_eq_true rfl) (Nat.le_refl _) (Nat.le_refl _) dX5_haveOneParty_24 ?_
      refine lv_iload_n hx hb dX5_haveOneParty_27 rfl (lv_at hl 6 rfl) ?_
      refine lv_icmp_lt (tgt := 77) hx hb dX5_haveOneParty_28 (by decide) (fun c2 => ?_) (fun c2 => ?_)
      · refine lv_iinc (v := nI (i + 1)) (lv' := [(6, .int (nI (i + 1))), (5, .int (if (smpS tr.1 ur.1 tr.2.2 ur.2.2 (bfC h0 h1 tr.1) day i).2 then 1 else 0)), (4, .int (nI c)), (0, .ref x), (1, .int (nI t)), (2, .int (nI u)), (3, .int day)]) hx hb dX5_haveOneParty_77 hl (k := 0) rfl (nI_1 i) (by decide) rfl (fun ls hl => ?_)
        refine lv_goto (tgt := 9) hx hb dX5_haveOneParty_80 (by decide) ?_
        refine ih (i + 1) c ls (by omega) (by omega) (by rw [smpS_no c2]; exact hc) ?_
        rw [smpS_no c2]
        exact (lv_sub hl [0, 1, 2, 3, 4, 5, 6] rfl)
      · refine lv_iinc (v := nI (c + 1)) (lv' := [(4, .int (nI (c + 1))), (6, .int (nI i)), (5, .int (if (smpS tr.1 ur.1 tr.2.2 ur.2.2 (bfC h0 h1 tr.1) day i).2 then 1 else 0)), (0, .ref x), (1, .int (nI t)), (2, .int (nI u)), (3, .int day)]) hx hb dX5_haveOneParty_31 hl (k := 2) rfl (nI_1 c) (by decide) rfl (fun ls hl => ?_)
        refine lv_iload hx hb dX5_haveOneParty_34 (lv_at hl 2 rfl) ?_
        have ey := smpS_yes (T := tr.1) (U := ur.1) (hs := tr.2.2) (hu := ur.2.2) (bf := bfC h0 h1 tr.1) (day := day) (i := i) c2
        cases cs : (smpS tr.1 ur.1 tr.2.2 ur.2.2 (bfC h0 h1 tr.1) day i).2 with
        | false =>
          refine lv_if_eq (tgt := 74) hx hb dX5_haveOneParty_36 (by decide) (fun c3 => ?_) (fun c3 => ?_)
          rotate_left
          · exact absurd (by decide) c3
          refine lv_iconst (v := 0) hx hb dX5_haveOneParty_74 (by decide) ?_
          refine lv_istore (lv' := [(5, .int 0), (4, .int (nI (c + 1))), (6, .int (nI i)), (0, .ref x), (1, .int (nI t)), (2, .int (nI u)), (3, .int day)]) hx hb dX5_haveOneParty_75 hl (by decide) rfl (fun ls hl => ?_)
          refine lv_iinc (v := nI (i + 1)) (lv' := [(6, .int (nI (i + 1))), (5, .int 0), (4, .int (nI (c + 1))), (0, .ref x), (1, .int (nI t)), (2, .int (nI u)), (3, .int day)]) hx hb dX5_haveOneParty_77 hl (k := 2) rfl (nI_1 i) (by decide) rfl (fun ls hl => ?_)
          refine lv_goto (tgt := 9) hx hb dX5_haveOneParty_80 (by decide) ?_
          refine ih (i + 1) (c + 1) ls (by omega) (by omega) (by rw [ey]; simp) ?_
          rw [ey, cs]
          rw [show ((true, false && decide (hldS tr.1 tr.2.2 (bfC h0 h1 tr.1 (i + 1)) = hldS ur.1 ur.2.2 (bfC h0 h1 tr.1 (i + 1)))) : Bool × Bool).2 = false from rfl]
          exact (lv_sub hl [0, 1, 2, 3, 4, 5, 6] rfl)
        | true =>
          refine lv_if_eq (tgt := 74) hx hb dX5_haveOneParty_36 (by decide) (fun c3 => ?_) (fun c3 => ?_)
          · exact absurd c3 (by decide)
          refine lv_aload_n hx hb dX5_haveOneParty_39 rfl (lv_at hl 3 rfl) ?_
          refine lv_iload_n hx hb dX5_haveOneParty_40 rfl (lv_at hl 4 rfl) ?_
          refine lv_aload_n hx hb dX5_haveOneParty_41 rfl (lv_at hl 3 rfl) ?_
          refine lv_iload_n hx hb dX5_haveOneParty_42 rfl (lv_at hl 4 rfl) ?_
          refine lv_iload hx hb dX5_haveOneParty_43 (lv_at hl 1 rfl) ?_
          refine lv_iconst (v := 1) hx hb dX5_haveOneParty_45 (by decide) ?_
          refine lv_iadd hx hb dX5_haveOneParty_46 ?_
          rw [show nI i + 1 = nI (i + 1) from nI_1 i]
          refine pV hx hb hml hts hown hE kwX5_128 (c_beg E x sc ad ar h0 h1 fx ts B t tr (i + 1) n_ H hX hI hV ht t6_ (by omega) (by omega)) hX.1 rfl (Nat.le_of_ble_eq_true rfl) rfl hl.1 rfl (Nat.le_of_ble_eq_true rfl) (Nat.le_refl _) (Nat.le_refl _) dX5_haveOneParty_47 ?_
          refine pV hx hb hml hts hown hE kwX5_125 (c_mparty E x sc ad ar h0 h1 fx ts B t tr (bfC h0 h1 tr.1 (i + 1)) H hX hI hV ht) hX.1 rfl (Nat.le_of_ble_eq_true rfl) rfl hl.1 rfl (Nat.le_of_ble_eq_true rfl) (Nat.le_refl _) (Nat.le_refl _) dX5_haveOneParty_50 ?_
          refine lv_aload_n hx hb dX5_haveOneParty_53 rfl (lv_at hl 3 rfl) ?_
          refine lv_iload_n hx hb dX5_haveOneParty_54 rfl (lv_at hl 5 rfl) ?_
          refine lv_aload_n hx hb dX5_haveOneParty_55 rfl (lv_at hl 3 rfl) ?_
          refine lv_iload_n hx hb dX5_haveOneParty_56 rfl (lv_at hl 4 rfl) ?_
          refine lv_iload hx hb dX5_haveOneParty_57 (lv_at hl 1 rfl) ?_
          refine lv_iconst (v := 1) hx hb dX5_haveOneParty_59 (by decide) ?_
          refine lv_iadd hx hb dX5_haveOneParty_60 ?_
          rw [show nI i + 1 = nI (i + 1) from nI_1 i]
          refine pV hx hb hml hts hown hE kwX5_128 (c_beg E x sc ad ar h0 h1 fx ts B t tr (i + 1) n_ H hX hI hV ht t6_ (by omega) (by omega)) hX.1 rfl (Nat.le_of_ble_eq_true rfl) rfl hl.1 rfl (Nat.le_of_ble_eq_true rfl) (Nat.le_refl _) (Nat.le_refl _) dX5_haveOneParty_61 ?_
          refine pV hx hb hml hts hown hE kwX5_125 (c_mparty E x sc ad ar h0 h1 fx ts B u ur (bfC h0 h1 tr.1 (i + 1)) H hX hI hV hu) hX.1 rfl (Nat.le_of_ble_eq_true rfl) rfl hl.1 rfl (Nat.le_of_ble_eq_true rfl) (Nat.le_refl _) (Nat.le_refl _) dX5_haveOneParty_64 ?_
          refine lv_icmp_ne (tgt := 74) hx hb dX5_haveOneParty_67 (by decide) (fun c4 => ?_) (fun c4 => ?_)
          · refine lv_iconst (v := 0) hx hb dX5_haveOneParty_74 (by decide) ?_
            refine lv_istore (lv' := [(5, .int 0), (4, .int (nI (c + 1))), (6, .int (nI i)), (0, .ref x), (1, .int (nI t)), (2, .int (nI u)), (3, .int day)]) hx hb dX5_haveOneParty_75 hl (by decide) rfl (fun ls hl => ?_)
            refine lv_iinc (v := nI (i + 1)) (lv' := [(6, .int (nI (i + 1))), (5, .int 0), (4, .int (nI (c + 1))), (0, .ref x), (1, .int (nI t)), (2, .int (nI u)), (3, .int day)]) hx hb dX5_haveOneParty_77 hl (k := 2) rfl (nI_1 i) (by decide) rfl (fun ls hl => ?_)
            refine lv_goto (tgt := 9) hx hb dX5_haveOneParty_80 (by decide) ?_
            refine ih (i + 1) (c + 1) ls (by omega) (by omega) (by rw [ey]; simp) ?_
            rw [ey, cs]
            rw [decide_eq_false c4]
            exact (lv_sub hl [0, 1, 2, 3, 4, 5, 6] rfl)
          · refine lv_iconst (v := 1) hx hb dX5_haveOneParty_70 (by decide) ?_
            refine lv_goto (tgt := 75) hx hb dX5_haveOneParty_71 (by decide) ?_
            refine lv_istore (lv' := [(5, .int 1), (4, .int (nI (c + 1))), (6, .int (nI i)), (0, .ref x), (1, .int (nI t)), (2, .int (nI u)), (3, .int day)]) hx hb dX5_haveOneParty_75 hl (by decide) rfl (fun ls hl => ?_)
            refine lv_iinc (v := nI (i + 1)) (lv' := [(6, .int (nI (i + 1))), (5, .int 1), (4, .int (nI (c + 1))), (0, .ref x), (1, .int (nI t)), (2, .int (nI u)), (3, .int day)]) hx hb dX5_haveOneParty_77 hl (k := 2) rfl (nI_1 i) (by decide) rfl (fun ls hl => ?_)
            refine lv_goto (tgt := 9) hx hb dX5_haveOneParty_80 (by decide) ?_
            refine ih (i + 1) (c + 1) ls (by omega) (by omega) (by rw [ey]; simp) ?_
            rw [ey, cs]
            rw [decide_eq_true c4]
            exact (lv_sub hl [0, 1, 2, 3, 4, 5, 6] rfl)
  exact loop n_ 0 0 ls (by omega) (Nat.le_refl _) (by simp [smpS]) (lv_sub hl [0, 1, 2, 3, 4, 5, 6] rfl)
end
section
section IMP
variable {p : Program} {e : Env} {R : Room} {s : State} {m : MethodId} {args : Array Value} {below : List Frame} {meth : Method} {c : Code} {H H0 : Heap} {locs : List Loc} {cells slots : Nat} {Q : State → Prop}
variable {cc : ByteArray} {pc nL : Nat} {ls : Array Slot} {rest st0 : List Value} {E : ET} {own : String}
variable {idx k k' mc ms mc' ms' n mL a ci N : Nat} {y : MethodName} {b : ByteArray} {ret : Option FieldType} {As : List Value} {v : Value} {fs : List Value} {T : u_T}
/-- what has changed since H0: cells of M alone, and new ones -/
def FR (M : Nat → Prop) (H0 H : Heap) : Prop := H0.size ≤ H.size ∧ ∀ q : Nat, q < H0.size → ¬ M q → H[q]? = H0[q]?
theorem FR.rf {M : Nat → Prop} {H : Heap} : FR M H H := ⟨Nat.le_refl _, fun _ _ _ => rfl⟩
theorem FR.put {M : Nat → Prop} {H0 H H1 : Heap} {a : Nat} (h : FR M H0 H) (z : H1.size = H.size) (o : ∀ q : Nat, q ≠ a → H1[q]? = H[q]?) (ha : a < H0.size → M a) : FR M H0 H1 :=
  ⟨by rw [z]; exact h.1, fun q hq hm => (o q (fun e => hm (e ▸ ha (e ▸ hq)))).trans (h.2 q hq hm)⟩
theorem FR.new {M : Nat → Prop} {H0 H H1 : Heap} (h : FR M H0 H) (z : H.size ≤ H1.size) (o : ∀ q : Nat, q < H.size → H1[q]? = H[q]?) : FR M H0 H1 :=
  ⟨Nat.le_trans h.1 z, fun q hq hm => (o q (Nat.lt_of_lt_of_le hq h.1)).trans (h.2 q hq hm)⟩
theorem FR.tr {M M1 : Nat → Prop} {H0 H H1 : Heap} (h : FR M H0 H) (h1 : FR M1 H H1) (hm : ∀ q : Nat, q < H0.size → M1 q → M q) : FR M H0 H1 :=
  ⟨Nat.le_trans h.1 h1.1, fun q hq hn => (h1.2 q (Nat.lt_of_lt_of_le hq h.1) (fun x => hn (hm q hq x))).trans (h.2 q hq hn)⟩
theorem FR.at {M : Nat → Prop} {H0 H : Heap} {a : Nat} {x : va_E} (h : FR M H0 H) (ho : va_P (eD E) vwCl [(a, x)] H0) (hm : ¬ M a) : va_P (eD E) vwCl [(a, x)] H := pk1 ho (h.2 a (plt ho) hm)
theorem pk2 {H1 : Heap} {a b : Nat} {x : va_E} (h : va_P (eD E) vwCl [(b, x)] H) (o : ∀ q : Nat, q ≠ a → H1[q]? = H[q]?) (hn : b ≠ a) : va_P (eD E) vwCl [(b, x)] H1 := pk1 h (o b hn)
theorem pk3 {H1 : Heap} {b : Nat} {x : va_E} (h : va_P (eD E) vwCl [(b, x)] H) (o : ∀ q : Nat, q < H.size → H1[q]? = H[q]?) : va_P (eD E) vwCl [(b, x)] H1 := pk1 h (o b (plt h))
theorem SFR (h : va_S (fr E) s.heap H locs) {H1 : Heap} {a i : Nat} (z : H1.size = H.size) (o : ∀ q : Nat, q ≠ a → H1[q]? = H[q]?) (ha : eB E ≤ a) : va_S (fr E) s.heap H1 (locs ++ [⟨a, i⟩]) := va_S.put h z o ha
theorem EVp (hE : EV E s H) {H1 : Heap} {a : Nat} (z : H1.size = H.size) (o : ∀ q : Nat, q ≠ a → H1[q]? = H[q]?) (ha : eB E ≤ a) : EV E s H1 := hE.kept (Nat.le_of_eq z.symm) (fun q hq => o q (fun e => by omega))
theorem EVn (hE : EV E s H) {H1 : Heap} (z : H.size ≤ H1.size) (o : ∀ q : Nat, q < H.size → H1[q]? = H[q]?) : EV E s H1 := hE.kept z (fun q hq => o q (Nat.lt_of_lt_of_le hq hE.2.1))
theorem SFn (h : va_S (fr E) s.heap H locs) {H1 : Heap} (z : H.size ≤ H1.size) (o : ∀ q : Nat, q < H.size → H1[q]? = H[q]?) : va_S (fr E) s.heap H1 locs := ⟨Nat.le_trans h.1 z, fun q h1 h2 => (o q (Nat.lt_of_lt_of_le h1 h.1)).trans (h.2.1 q h1 h2), h.2.2⟩
theorem one9 {a : Nat} {x : va_E} {H : Heap} (h : va_at (eD E) vwCl (a, x) H) : va_P (eD E) vwCl [(a, x)] H := fun k q hk => by
  cases k with
  | zero => cases hk; exact h
  | succ k => cases hk
/-! putfield -/
def PK (own : String) (idx : Nat) (C : String) (T : u_T) (N ci k : Nat) (ref : String) (ty0 : Nat → FieldType) : Prop := LK own idx C T N ci k ref ∧ (∀ j, j < N → parseFieldDescriptor (T j).2.2.1 = some (ty0 j)) ∧ (∀ i, i < N → ∀ j, j < N → i ≠ j → (T i).2.1 ≠ (T j).2.1)
theorem pf {C : String} {k : Nat} {ref : String} {ty0 : Nat → FieldType} (hx : p.tables.exec = Jvm.exec) (hb : c.code = cc) (hts : ∀ w ∈ Tw, w.before args s = true) (hown : s.vm.findClass own = some m.cls) (hE : EV E s H) (hS : va_S (fr E) s.heap H locs) (hk : PK own idx C T N ci k ref ty0) (hfin : (T k).2.2.2 = false) (hO : OB E ci fs a H) (ha : eB E ≤ a) (hn : narrow (ty0 k) v = v) (hfit : fits (ty0 k) v = true) (hl : k < fs.length) (hdg : decode cc pc = .ok (.putfield idx, 3))
    (kk : ∀ (H1 : Heap) (locs1 : List Loc), OB E ci (fs.set k v) a H1 → H1.size = H.size → (∀ q : Nat, q ≠ a → H1[q]? = H[q]?) → EV E s H1 → va_S (fr E) s.heap H1 locs1 → W p (eL E) e R s m args below meth c H1 locs1 cells slots Q (F0 m (pc + 3) ls rest)) : W p (eL E) e R s m args below meth c H locs cells slots Q (F0 m pc ls (v :: .ref a :: rest)) := by
  obtain ⟨hlk, hty, hnm⟩ := hk
  have hK := hE.K
  have hap := va_apart (own := own) hts hlk.1 ty0 hty hnm hK hlk.2.1
  obtain ⟨r, h1, cell, q1, q2, q3, q4⟩ := hO 0 _ rfl
  have hr : r = (C, T, N) := Option.some.inj (h1.symm.trans hlk.2.1)
  subst hr
  obtain ⟨hSl, hfc, kC, hkC, hkind⟩ := hK.1 ci _ hlk.2.1
  obtain ⟨cf, kf, fi, f, hi, hsl⟩ := hSl k hlk.2.2.1
  have hlay := hts _ (hlk.1 _ (u_in_lay hlk.2.2.1))
  unfold u_lay at hlay
  rw [if_neg (by rw [hfin]; decide)] at hlay
  have hst := (u_facts hfc hkC (u_lays hts hlk.1 hlk.2.2.1) hi).1
  have h6 := u_store hfc hkC hkind hlay hi (hty k hlk.2.2.1) hn hfit
  refine W.putK hx hb (f := f) ⟨hown, hts _ hlk.2.2.2.1, ⟨_, _, _, hlk.same hts _ hi⟩, hst⟩ (by rw [q2]; exact h6) q1 q3 (by rw [hsl]; exact k2_hasslot (q4 k hlk.2.2.1)) rfl rfl hdg fun H' e1 e2 e3 => ?_
  rw [hsl] at e1 ⊢
  exact kk H' _ (one9 ⟨_, hlk.2.1, t_OB.to (V := updV (vp_V fs) k v) ⟨_, e1, q2, q3, t_set q4 hap hlk.2.2.1 v⟩ (fun j _ => vp_updV_set hl v j)⟩) e2 e3 (EVp hE e2 e3 ha) (SFR hS e2 e3 ha)
/-- .. a final field, in its class's constructor -/
theorem pfF {C : String} {k : Nat} {ref : String} {ty0 : Nat → FieldType} (hx : p.tables.exec = Jvm.exec) (hb : c.code = cc) (hts : ∀ w ∈ Tw, w.before args s = true) (hown : s.vm.findClass own = some m.cls) (hin2 : meth.name = "<init>") (hE : EV E s H) (hS : va_S (fr E) s.heap H locs) (hk : PK own idx C T N ci k ref ty0) (hfin : (T k).2.2.2 = true) (hdecl : (T k).1 = own) (hO : OB E ci fs a H) (ha : eB E ≤ a) (hn : narrow (ty0 k) v = v) (hfit : fits (ty0 k) v = true) (hl : k < fs.length) (hdg : decode cc pc = .ok (.putfield idx, 3))
    (kk : ∀ (H1 : Heap) (locs1 : List Loc), OB E ci (fs.set k v) a H1 → H1.size = H.size → (∀ q : Nat, q ≠ a → H1[q]? = H[q]?) → EV E s H1 → va_S (fr E) s.heap H1 locs1 → W p (eL E) e R s m args below meth c H1 locs1 cells slots Q (F0 m (pc + 3) ls rest)) : W p (eL E) e R s m args below meth c H locs cells slots Q (F0 m pc ls (v :: .ref a :: rest)) := by
  obtain ⟨hlk, hty, hnm⟩ := hk
  have hK := hE.K
  have hap := va_apart (own := own) hts hlk.1 ty0 hty hnm hK hlk.2.1
  obtain ⟨r, h1, cell, q1, q2, q3, q4⟩ := hO 0 _ rfl
  have hr : r = (C, T, N) := Option.some.inj (h1.symm.trans hlk.2.1)
  subst hr
  obtain ⟨hSl, hfc, kC, hkC, hkind⟩ := hK.1 ci _ hlk.2.1
  obtain ⟨cf, kf, fi, f, hi, hsl⟩ := hSl k hlk.2.2.1
  have hlay := hts _ (hlk.1 _ (u_in_lay hlk.2.2.1))
  unfold u_lay at hlay
  rw [if_pos hfin] at hlay
  have hst := (u_facts hfc hkC (u_lays hts hlk.1 hlk.2.2.1) hi).1
  have hcf : m.cls = cf := by
    obtain ⟨_, _, c', _, _, _, -, -, hf', -, -, -, hown2, -⟩ := Cond.laysFinal_spec hlay
    have e1 : c' = cf := by have := hi.symm.trans hf'; simp at this; exact this.1.symm
    rw [hdecl] at hown2
    rw [← e1]; exact Option.some.inj (hown.symm.trans hown2)
  have h6 := u_fits hfc hkC hkind (Or.inr hlay) hi (hty k hlk.2.2.1) hn hfit
  refine W.putFinK hx hb hown (hts _ hlk.2.2.2.1) (hlk.same hts _ hi) hst hcf hin2 (by rw [q2]; exact h6) q1 q3 (by rw [hsl]; exact k2_hasslot (q4 k hlk.2.2.1)) rfl rfl hdg fun H' e1 e2 e3 => ?_
  rw [hsl] at e1 ⊢
  exact kk H' _ (one9 ⟨_, hlk.2.1, t_OB.to (V := updV (vp_V fs) k v) ⟨_, e1, q2, q3, t_set q4 hap hlk.2.2.1 v⟩ (fun j _ => vp_updV_set hl v j)⟩) e2 e3 (EVp hE e2 e3 ha) (SFR hS e2 e3 ha)
/-! array stores -/
theorem asI {f : Nat → Int32} {j : Nat} {i x : Int32} (hx : p.tables.exec = Jvm.exec) (hb : c.code = cc) (hE : EV E s H) (hS : va_S (fr E) s.heap H locs) (hA : IA E n f a H) (ha : eB E ≤ a) (hi : i = nI j) (hj : j < n) (hn : n < 2 ^ 31) (hdg : decode cc pc = .ok (.iastore, 1))
    (kk : ∀ (H1 : Heap) (locs1 : List Loc), IA E n (upd f j x) a H1 → H1.size = H.size → (∀ q : Nat, q ≠ a → H1[q]? = H[q]?) → EV E s H1 → va_S (fr E) s.heap H1 locs1 → W p (eL E) e R s m args below meth c H1 locs1 cells slots Q (F0 m (pc + 1) ls rest)) : W p (eL E) e R s m args below meth c H locs cells slots Q (F0 m pc ls (.int x :: .int i :: .ref a :: rest)) := by
  subst hi
  refine W.iast hx hb (hA 0 _ rfl) ((hE.K.2 0 _ rfl).1 n (fun j => .int (f j))) (fun q => by cases q) (by show ¬ (nI j < 0 ∨ (arrV _ _ _).slots.size ≤ _); rw [arrV_size]; exact vp_in_nI hj hn) rfl rfl hdg fun H1 e z oq => ?_
  refine kk H1 _ (one9 ?_) z oq (EVp hE z oq ha) (SFR hS z oq ha)
  show H1[a]? = some (vp_cell _ _)
  rw [e]
  rw [vp_cell_i, vp_cell_i, arrV_store, nI_clamp (by omega)]
  congr 2
  funext q
  by_cases hq : q = j
  · subst hq
    simp [updV, upd]
  · simp [updV, upd, hq]
theorem asZ {f : Nat → Int32} {j : Nat} {i x : Int32} (hx : p.tables.exec = Jvm.exec) (hb : c.code = cc) (hE : EV E s H) (hS : va_S (fr E) s.heap H locs) (hA : ZA E n f a H) (ha : eB E ≤ a) (hi : i = nI j) (hj : j < n) (hn : n < 2 ^ 31) (hv : x = 0 ∨ x = 1) (hdg : decode cc pc = .ok (.bastore, 1))
    (kk : ∀ (H1 : Heap) (locs1 : List Loc), ZA E n (upd f j x) a H1 → H1.size = H.size → (∀ q : Nat, q ≠ a → H1[q]? = H[q]?) → EV E s H1 → va_S (fr E) s.heap H1 locs1 → W p (eL E) e R s m args below meth c H1 locs1 cells slots Q (F0 m (pc + 1) ls rest)) : W p (eL E) e R s m args below meth c H locs cells slots Q (F0 m pc ls (.int x :: .int i :: .ref a :: rest)) := by
  subst hi
  refine W.zast hx hb (hA 0 _ rfl) ((hE.K.2 1 _ rfl).1 n (fun j => .int (f j))) (fun q => by cases q) (by show ¬ (nI j < 0 ∨ (arrV _ _ _).slots.size ≤ _); rw [arrV_size]; exact vp_in_nI hj hn) rfl rfl hdg fun H1 e z oq => ?_
  refine kk H1 _ (one9 ?_) z oq (EVp hE z oq ha) (SFR hS z oq ha)
  show H1[a]? = some (vp_cell _ _)
  rw [e]
  have hnx : narrow .boolean (.int x) = .int x := by rcases hv with rfl | rfl <;> rfl
  rw [vp_cell_i, vp_cell_i, arrV_store, nI_clamp (by omega), hnx]
  congr 2
  funext q
  by_cases hq : q = j
  · subst hq
    simp [updV, upd]
  · simp [updV, upd, hq]
theorem asJ {f : Nat → Int64} {j : Nat} {i : Int32} {x : Int64} (hx : p.tables.exec = Jvm.exec) (hb : c.code = cc) (hE : EV E s H) (hS : va_S (fr E) s.heap H locs) (hA : JA E n f a H) (ha : eB E ≤ a) (hi : i = nI j) (hj : j < n) (hn : n < 2 ^ 31) (hdg : decode cc pc = .ok (.lastore, 1))
    (kk : ∀ (H1 : Heap) (locs1 : List Loc), JA E n (vp_updL f j x) a H1 → H1.size = H.size → (∀ q : Nat, q ≠ a → H1[q]? = H[q]?) → EV E s H1 → va_S (fr E) s.heap H1 locs1 → W p (eL E) e R s m args below meth c H1 locs1 cells slots Q (F0 m (pc + 1) ls rest)) : W p (eL E) e R s m args below meth c H locs cells slots Q (F0 m pc ls (.long x :: .int i :: .ref a :: rest)) := by
  subst hi
  refine W.last hx hb (hA 0 _ rfl) ((hE.K.2 3 _ rfl).1 n (fun j => .long (f j))) (fun q => by cases q) (by show ¬ (nI j < 0 ∨ (arrV _ _ _).slots.size ≤ _); rw [arrV_size]; exact vp_in_nI hj hn) rfl rfl hdg fun H1 e z oq => ?_
  refine kk H1 _ (one9 ?_) z oq (EVp hE z oq ha) (SFR hS z oq ha)
  show H1[a]? = some (vp_cell _ _)
  rw [e]
  rw [vp_cell_l, vp_cell_l, arrV_store, nI_clamp (by omega)]
  congr 2
  funext q
  by_cases hq : q = j
  · subst hq
    simp [updV, vp_updL]
  · simp [updV, vp_updL, hq]
theorem asQ {f : Nat → Option Nat} {j v : Nat} {i : Int32} {C : String} (hx : p.tables.exec = Jvm.exec) (hb : c.code = cc) (hE : EV E s H) (hS : va_S (fr E) s.heap H locs) (hA : QA E n f a H) (ha : eB E ≤ a) (hO : OB E ci fs v H) (hc : vwCl[ci]? = some (C, T, N)) (hca : (C, xO) ∈ casL) (hi : i = nI j) (hj : j < n) (hn : n < 2 ^ 31) (hdg : decode cc pc = .ok (.aastore, 1))
    (kk : ∀ (H1 : Heap) (locs1 : List Loc), QA E n (va_up f j (some v)) a H1 → H1.size = H.size → (∀ q : Nat, q ≠ a → H1[q]? = H[q]?) → EV E s H1 → va_S (fr E) s.heap H1 locs1 → W p (eL E) e R s m args below meth c H1 locs1 cells slots Q (F0 m (pc + 1) ls rest)) : W p (eL E) e R s m args below meth c H locs cells slots Q (F0 m pc ls (.ref v :: .int i :: .ref a :: rest)) := by
  subst hi
  have hin := vp_in_nI hj hn
  have h0 : ¬ nI j < 0 := fun q => hin (Or.inl q)
  have hca : va_Nw (.castable C xO) s := hE.2.2.2.2.2.2.2.2.2.1 (C, xO) hca
  obtain ⟨r', hr', cellV, g1, g2, g3, -⟩ := hO 0 _ rfl
  have hcls := (hE.K.1 ci _ hc).2
  obtain ⟨kA, comp, k1, k2, k3, -⟩ := (hE.K.2 2 _ rfl).2
  obtain ⟨kE, hkE, -⟩ := Vm.findClass_spec k3
  obtain ⟨c0, t1, f1, f2, f3⟩ := Cond.castable_spec (va_Nw.use (A := args) rfl hca)
  cases hcls.1.symm.trans f1
  cases k3.symm.trans f2
  obtain ⟨kC, hkC, -⟩ := hcls.2
  refine W.aast hx hb (hA 0 _ rfl) (fun q h => by cases h) (fun h => by cases h) k1 k2 rfl hkE ⟨h0, by show _ < (arrV _ _ _).slots.size; rw [arrV_size, nI_clamp (by omega)]; exact hj⟩ g1 (fun q h => by rw [g3] at h; cases h) (by rw [g2]; exact hkC) (by rw [g2]; exact f3) rfl rfl hdg fun H1 e z oq => ?_
  refine kk H1 _ (one9 ?_) z oq (EVp hE z oq ha) (SFR hS z oq ha)
  show H1[a]? = some (vp_cell _ _)
  rw [e]
  rw [vp_cell_q, vp_cell_q, arrV_store, nI_clamp (by omega)]
  congr 2
  funext q
  by_cases hq : q = j
  · subst hq
    simp [updV, va_up, va_rf]
  · simp [updV, va_up, hq]
/-! new objects and arrays -/
def NK (own : String) (idx : Nat) (C : String) (T : u_T) (N ci : Nat) (ty0 : Nat → FieldType) : Prop := (∀ w ∈ u_ws C T N, w ∈ Tw) ∧ vwCl[ci]? = some (C, T, N) ∧ Cond.classLink own idx C ∈ Tw ∧ Cond.instantiable C N ∈ Tw ∧ Cond.initialized C ∈ Tw ∧ (∀ j, j < N → parseFieldDescriptor (T j).2.2.1 = some (ty0 j))
theorem nw {C : String} {ty0 : Nat → FieldType} (hx : p.tables.exec = Jvm.exec) (hb : c.code = cc) (hts : ∀ w ∈ Tw, w.before args s = true) (hown : s.vm.findClass own = some m.cls) (hE : EV E s H) (hS : va_S (fr E) s.heap H locs) (hk : NK own idx C T N ci ty0) (hfs : ∀ j, j < N → defaultValue (ty0 j) = vp_V fs j) (hc : cells + 1 ≤ mc) (hs : slots + N ≤ ms) (hdg : decode cc pc = .ok (.new idx, 3))
    (kk : ∀ (a : Nat) (H1 : Heap), a = H.size → OB E ci fs a H1 → H1.size = H.size + 1 → (∀ q : Nat, q < H.size → H1[q]? = H[q]?) → EV E s H1 → va_S (fr E) s.heap H1 locs → eB E ≤ a → W p (eL E) e (rmk k mc ms) s m args below meth c H1 locs (cells + 1) (slots + N) Q (F0 m (pc + 3) ls (.ref a :: rest))) : W p (eL E) e (rmk k mc ms) s m args below meth c H locs cells slots Q (F0 m pc ls rest) := by
  obtain ⟨h1, h2, h3, h4, h5, h6⟩ := hk
  have hKn := hE.K.1 ci _ h2
  refine W.newcK hx hb hown (hts _ h3) (hts _ h4) (hts _ h5) rfl hdg hc hs hKn.2.1 rfl fun H1 kC hkC e1 z1 o1 => ?_
  exact kk H.size H1 rfl (one9 ⟨_, h2, (u_born ty0 hts h1 hKn hkC e1 h6).to hfs⟩) z1 o1 (EVn hE (by omega) o1) (SFn hS (by omega) o1) hE.2.1
theorem naI {z : Int32} {N' : Nat} (hx : p.tables.exec = Jvm.exec) (hb : c.code = cc) (hts : ∀ w ∈ Tw, w.before args s = true) (hE : EV E s H) (hS : va_S (fr E) s.heap H locs) (hw : Cond.arrayClass .int ∈ Tw) (hz : z = nI N') (hN : N' ≤ 100000) (hc : cells + 1 ≤ mc) (hs : slots + N' ≤ ms) (hdg : decode cc pc = .ok (.newarray .int, 2))
    (kk : ∀ (a : Nat) (H1 : Heap), a = H.size → IA E N' (fun _ => 0) a H1 → H1.size = H.size + 1 → (∀ q : Nat, q < H.size → H1[q]? = H[q]?) → EV E s H1 → va_S (fr E) s.heap H1 locs → eB E ≤ a → W p (eL E) e (rmk k mc ms) s m args below meth c H1 locs (cells + 1) (slots + N') Q (F0 m (pc + 2) ls (.ref a :: rest))) : W p (eL E) e (rmk k mc ms) s m args below meth c H locs cells slots Q (F0 m pc ls (.int z :: rest)) := by
  subst hz
  refine va_newaK hx hb (atype := .int) (hts _ hw) rfl hdg rfl (nI_pos (by omega)) (nI_clamp (by omega)) (by show N' * 4 ≤ _; omega) hc hs rfl fun H1 cA e1 z1 o1 hAr hNm => ?_
  have hcA : cA = eA E 0 := Option.some.inj (hNm.symm.trans (hE.K.2 0 _ rfl).2)
  subst hcA
  exact kk H.size H1 rfl (one9 e1) z1 o1 (EVn hE (by omega) o1) (SFn hS (by omega) o1) hE.2.1
theorem naZ {z : Int32} {N' : Nat} (hx : p.tables.exec = Jvm.exec) (hb : c.code = cc) (hts : ∀ w ∈ Tw, w.before args s = true) (hE : EV E s H) (hS : va_S (fr E) s.heap H locs) (hw : Cond.arrayClass .boolean ∈ Tw) (hz : z = nI N') (hN : N' ≤ 100000) (hc : cells + 1 ≤ mc) (hs : slots + N' ≤ ms) (hdg : decode cc pc = .ok (.newarray .boolean, 2))
    (kk : ∀ (a : Nat) (H1 : Heap), a = H.size → ZA E N' (fun _ => 0) a H1 → H1.size = H.size + 1 → (∀ q : Nat, q < H.size → H1[q]? = H[q]?) → EV E s H1 → va_S (fr E) s.heap H1 locs → eB E ≤ a → W p (eL E) e (rmk k mc ms) s m args below meth c H1 locs (cells + 1) (slots + N') Q (F0 m (pc + 2) ls (.ref a :: rest))) : W p (eL E) e (rmk k mc ms) s m args below meth c H locs cells slots Q (F0 m pc ls (.int z :: rest)) := by
  subst hz
  refine va_newaK hx hb (atype := .boolean) (hts _ hw) rfl hdg rfl (nI_pos (by omega)) (nI_clamp (by omega)) (by show N' * 1 ≤ _; omega) hc hs rfl fun H1 cA e1 z1 o1 hAr hNm => ?_
  have hcA : cA = eA E 1 := Option.some.inj (hNm.symm.trans (hE.K.2 1 _ rfl).2)
  subst hcA
  exact kk H.size H1 rfl (one9 e1) z1 o1 (EVn hE (by omega) o1) (SFn hS (by omega) o1) hE.2.1
theorem naJ {z : Int32} {N' : Nat} (hx : p.tables.exec = Jvm.exec) (hb : c.code = cc) (hts : ∀ w ∈ Tw, w.before args s = true) (hE : EV E s H) (hS : va_S (fr E) s.heap H locs) (hw : Cond.arrayClass .long ∈ Tw) (hz : z = nI N') (hN : N' ≤ 100000) (hc : cells + 1 ≤ R.cells) (hs : slots + N' ≤ R.slots) (hdg : decode cc pc = .ok (.newarray .long, 2))
    (kk : ∀ (a : Nat) (H1 : Heap), a = H.size → JA E N' (fun _ => 0) a H1 → H1.size = H.size + 1 → (∀ q : Nat, q < H.size → H1[q]? = H[q]?) → EV E s H1 → va_S (fr E) s.heap H1 locs → eB E ≤ a → W p (eL E) e R s m args below meth c H1 locs (cells + 1) (slots + N') Q (F0 m (pc + 2) ls (.ref a :: rest))) : W p (eL E) e R s m args below meth c H locs cells slots Q (F0 m pc ls (.int z :: rest)) := by
  subst hz
  refine va_newaK hx hb (atype := .long) (hts _ hw) rfl hdg rfl (nI_pos (by omega)) (nI_clamp (by omega)) (by show N' * 8 ≤ _; omega) hc hs rfl fun H1 cA e1 z1 o1 hAr hNm => ?_
  have hcA : cA = eA E 3 := Option.some.inj (hNm.symm.trans (hE.K.2 3 _ rfl).2)
  subst hcA
  exact kk H.size H1 rfl (one9 e1) z1 o1 (EVn hE (by omega) o1) (SFn hS (by omega) o1) hE.2.1
theorem naQ {z : Int32} {N' : Nat} (hx : p.tables.exec = Jvm.exec) (hb : c.code = cc) (hts : ∀ w ∈ Tw, w.before args s = true) (hown : s.vm.findClass own = some m.cls) (hE : EV E s H) (hS : va_S (fr E) s.heap H locs) (hw : Cond.classLink own idx xO ∈ Tw) (hz : z = nI N') (hN : N' ≤ 100000) (hc : cells + 1 ≤ mc) (hs : slots + N' ≤ ms) (hdg : decode cc pc = .ok (.anewarray idx, 3))
    (kk : ∀ (a : Nat) (H1 : Heap), a = H.size → QA E N' (fun _ => none) a H1 → H1.size = H.size + 1 → (∀ q : Nat, q < H.size → H1[q]? = H[q]?) → EV E s H1 → va_S (fr E) s.heap H1 locs → eB E ≤ a → W p (eL E) e (rmk k mc ms) s m args below meth c H1 locs (cells + 1) (slots + N') Q (F0 m (pc + 3) ls (.ref a :: rest))) : W p (eL E) e (rmk k mc ms) s m args below meth c H locs cells slots Q (F0 m pc ls (.int z :: rest)) := by
  subst hz
  refine W.anew hx hb hown (hts _ hw) (va_AO.use hE.2.2.2.2.2.2.2.2.2.2.2.2.2.1) rfl hdg rfl (nI_pos (by omega)) (by rw [nI_clamp (by omega)]; omega) hc (by rw [nI_clamp (by omega)]; exact hs) fun cA kA comp f1 f2 f3 f4 => ?_
  rw [nI_clamp (by omega)]
  generalize hH1 : H.push ({ cls := cA, slots := Array.replicate N' .null, vm := .none } : Cell) = H1
  have z1 : H1.size = H.size + 1 := by rw [← hH1, Array.size_push]
  have e1 : H1[H.size]? = some (arrV cA N' (fun _ => .null)) := by rw [← hH1, Array.getElem?_push_size, ← arrV_new]
  have o1 : ∀ q : Nat, q < H.size → H1[q]? = H[q]? := fun q hq => by rw [← hH1, Array.getElem?_push, if_neg (Nat.ne_of_lt hq)]
  have hcA : cA = eA E 2 := by
    obtain ⟨kA2, comp2, k1, k2, k3, k4⟩ := (hE.K.2 2 _ rfl).2
    exact Option.some.inj (f1.symm.trans k4)
  subst hcA
  exact kk H.size H1 rfl (one9 (by show H1[H.size]? = some (vp_cell _ _); rw [vp_cell_q]; exact e1)) z1 o1 (EVn hE (by omega) o1) (SFn hS (by omega) o1) hE.2.1
end IMP
end
section
section GC
variable {p : Program} {e : Env} {R : Room} {s : State} {m : MethodId} {args : Array Value} {below : List Frame} {meth : Method} {c : Code} {H H0 : Heap} {locs : List Loc} {cells slots : Nat} {Q : State → Prop}
variable {cc : ByteArray} {pc nL : Nat} {ls : Array Slot} {rest st0 : List Value} {E : ET} {own : String}
variable {idx k k' mc ms mc' ms' n mL a ci N : Nat} {y : MethodName} {b : ByteArray} {ret : Option FieldType} {As : List Value} {v : Value} {fs : List Value} {T : u_T}
/-- what a changing method says: its answer r, its world behind it -/
abbrev o1 (r : Option Value) (G : Heap → Prop) : Option Value → Heap → Prop := fun v H' => v = r ∧ G H'
theorem va_S.tr9 (hS : va_S (fr E) s.heap H locs) {H1 : Heap} {L : List Loc} (hB : eB E ≤ s.heap.size) (hz : H.size ≤ H1.size) (hq : ∀ q : Nat, q < eB E → H1[q]? = H[q]?) (hL : ∀ q ∈ L, fr E q.base) : va_S (fr E) s.heap H1 (locs ++ L) :=
  ⟨Nat.le_trans hS.1 hz, fun q h1 h2 => (hq q (Nat.lt_of_not_le h2)).trans (hS.2.1 q h1 h2), fun z hz => (List.mem_append.mp hz).elim (hS.2.2 z) (hL z)⟩
theorem g_go {r : Option Value} {G : Heap → Prop} {a : Array Value} (hB : eB E ≤ s.heap.size) (hE : EV E s H) (hS : va_S (fr E) s.heap H locs) (hr : va_Run p (eL E) e R s m args below meth c H locs cells slots mc ms (F0 m pc ls st0) rest (CQ E (o1 r G) a) (fr E))
    (kk : ∀ (H1 : Heap) (locs1 : List Loc), G H1 → H.size ≤ H1.size → EV E s H1 → va_S (fr E) s.heap H1 locs1 → W p (eL E) e R s m args below meth c H1 locs1 (cells + mc) (slots + ms) Q (F0 m (pc + 3) ls (r.toList ++ rest))) : W p (eL E) e R s m args below meth c H locs cells slots Q (F0 m pc ls st0) := by
  intro T hT X
  obtain ⟨w, st₀, t, T', L, e0, X', hL, e1, e2, hq, hgo⟩ := hr T hT X
  obtain ⟨v, q1, ⟨q2, q3⟩, q4, q5⟩ := hq
  have hw : w = v := by injection q1
  subst hw q2
  rw [e0] at q4 q5
  obtain ⟨t2, a1, b1⟩ := kk t.heap (locs ++ L) q3 q4 (hE.kept q4 q5) (hS.tr9 hB q4 q5 hL) T' e1 X'
  exact ⟨t2, hgo t2 a1, b1⟩
theorem gV {r : Value} {G : Heap → Prop} (hx : p.tables.exec = Jvm.exec) (hb : c.code = cc) (hml : c.maxLocals = nL) (hts : ∀ w ∈ Tw, w.before args s = true) (hown : s.vm.findClass own = some m.cls) (hB : eB E ≤ s.heap.size) (hE : EV E s H) (hS : va_S (fr E) s.heap H locs) (kw : kwV own idx y b mL ret n) (hM : Con E y b mL ret k' mc' ms' (.ref a :: As) H (o1 (some r) G)) (hO : OB E ci fs a H) (hc : vwCl[ci]? = some (y.cls, T, N)) (hk : k' + 1 ≤ k) (hn : As.length = n) (hl : ls.size = nL) (hst : st0 = As.reverse ++ .ref a :: rest) (hW : (rest.map fun v => v.category).sum ≤ 8) (hcs : cells + mc' ≤ mc) (hss : slots + ms' ≤ ms) (hdg : decode cc pc = .ok (.invokevirtual idx, 3))
    (kk : ∀ (H1 : Heap) (locs1 : List Loc), G H1 → H.size ≤ H1.size → EV E s H1 → va_S (fr E) s.heap H1 locs1 → W p (eL E) e (rmk k mc ms) s m args below meth c H1 locs1 (cells + mc') (slots + ms') Q (F0 m (pc + 3) ls (r :: rest))) : W p (eL E) e (rmk k mc ms) s m args below meth c H locs cells slots Q (F0 m pc ls st0) :=
  g_go hB hE hS (va_runV (g := F0 m pc ls st0) (As := As) (rest := rest) ⟨hx, hb, hml, hown, hts⟩ hM (cwV9 hts kw hk) ⟨PC.blind, recv9 hE hO hc, fun U hU hW => ⟨rfl, hU, by rw [hU]; exact hE.warm hW⟩⟩ rfl hn hl hst (lv_room hW) hdg ⟨hcs, hss⟩) kk
theorem gVU {G : Heap → Prop} (hx : p.tables.exec = Jvm.exec) (hb : c.code = cc) (hml : c.maxLocals = nL) (hts : ∀ w ∈ Tw, w.before args s = true) (hown : s.vm.findClass own = some m.cls) (hB : eB E ≤ s.heap.size) (hE : EV E s H) (hS : va_S (fr E) s.heap H locs) (kw : kwV own idx y b mL ret n) (hM : Con E y b mL ret k' mc' ms' (.ref a :: As) H (o1 none G)) (hO : OB E ci fs a H) (hc : vwCl[ci]? = some (y.cls, T, N)) (hk : k' + 1 ≤ k) (hn : As.length = n) (hl : ls.size = nL) (hst : st0 = As.reverse ++ .ref a :: rest) (hW : (rest.map fun v => v.category).sum ≤ 8) (hcs : cells + mc' ≤ mc) (hss : slots + ms' ≤ ms) (hdg : decode cc pc = .ok (.invokevirtual idx, 3))
    (kk : ∀ (H1 : Heap) (locs1 : List Loc), G H1 → H.size ≤ H1.size → EV E s H1 → va_S (fr E) s.heap H1 locs1 → W p (eL E) e (rmk k mc ms) s m args below meth c H1 locs1 (cells + mc') (slots + ms') Q (F0 m (pc + 3) ls rest)) : W p (eL E) e (rmk k mc ms) s m args below meth c H locs cells slots Q (F0 m pc ls st0) :=
  g_go hB hE hS (va_runV (g := F0 m pc ls st0) (As := As) (rest := rest) ⟨hx, hb, hml, hown, hts⟩ hM (cwV9 hts kw hk) ⟨PC.blind, recv9 hE hO hc, fun U hU hW => ⟨rfl, hU, by rw [hU]; exact hE.warm hW⟩⟩ rfl hn hl hst (lv_room hW) hdg ⟨hcs, hss⟩) kk
theorem gS {r : Value} {G : Heap → Prop} (hx : p.tables.exec = Jvm.exec) (hb : c.code = cc) (hml : c.maxLocals = nL) (hts : ∀ w ∈ Tw, w.before args s = true) (hown : s.vm.findClass own = some m.cls) (hB : eB E ≤ s.heap.size) (hE : EV E s H) (hS : va_S (fr E) s.heap H locs) (kw : kwS own idx y b mL ret n) (hM : Con E y b mL ret k' mc' ms' As H (o1 (some r) G)) (hk : k' + 1 ≤ k) (hn : As.length = n) (hl : ls.size = nL) (hst : st0 = As.reverse ++ rest) (hW : (rest.map fun v => v.category).sum ≤ 8) (hcs : cells + mc' ≤ mc) (hss : slots + ms' ≤ ms) (hdg : decode cc pc = .ok (.invokestatic idx, 3))
    (kk : ∀ (H1 : Heap) (locs1 : List Loc), G H1 → H.size ≤ H1.size → EV E s H1 → va_S (fr E) s.heap H1 locs1 → W p (eL E) e (rmk k mc ms) s m args below meth c H1 locs1 (cells + mc') (slots + ms') Q (F0 m (pc + 3) ls (r :: rest))) : W p (eL E) e (rmk k mc ms) s m args below meth c H locs cells slots Q (F0 m pc ls st0) :=
  g_go hB hE hS (va_runS (g := F0 m pc ls st0) (As := As) (rest := rest) ⟨hx, hb, hml, hown, hts⟩ hM (cwS9 hts kw hk) ⟨PC.blind, fun U hU hW => ⟨rfl, hU, by rw [hU]; exact hE.warm hW⟩⟩ rfl hn hl hst (lv_room hW) hdg ⟨hcs, hss⟩) kk
theorem gI {G : Heap → Prop} (hx : p.tables.exec = Jvm.exec) (hb : c.code = cc) (hml : c.maxLocals = nL) (hts : ∀ w ∈ Tw, w.before args s = true) (hown : s.vm.findClass own = some m.cls) (hB : eB E ≤ s.heap.size) (hE : EV E s H) (hS : va_S (fr E) s.heap H locs) (kw : kwI own idx y b mL n) (hM : Con E y b mL none k' mc' ms' (.ref a :: As) H (o1 none G)) (hk : k' + 1 ≤ k) (hn : As.length = n) (hl : ls.size = nL) (hst : st0 = As.reverse ++ .ref a :: rest) (hW : (rest.map fun v => v.category).sum ≤ 8) (hcs : cells + mc' ≤ mc) (hss : slots + ms' ≤ ms) (hdg : decode cc pc = .ok (.invokespecial idx, 3))
    (kk : ∀ (H1 : Heap) (locs1 : List Loc), G H1 → H.size ≤ H1.size → EV E s H1 → va_S (fr E) s.heap H1 locs1 → W p (eL E) e (rmk k mc ms) s m args below meth c H1 locs1 (cells + mc') (slots + ms') Q (F0 m (pc + 3) ls rest)) : W p (eL E) e (rmk k mc ms) s m args below meth c H locs cells slots Q (F0 m pc ls st0) :=
  g_go hB hE hS (va_runI (g := F0 m pc ls st0) (As := As) (rest := rest) ⟨hx, hb, hml, hown, hts⟩ hM (cwI9 hts kw hk) ⟨PC.blind, fun U hU hW => ⟨rfl, hU, by rw [hU]; exact hE.warm hW⟩⟩ rfl hn hl hst (lv_room hW) hdg ⟨hcs, hss⟩) kk
/-! Object.<init> -/
theorem oI (hx : p.tables.exec = Jvm.exec) (hb : c.code = cc) (hml : c.maxLocals = nL) (hts : ∀ w ∈ Tw, w.before args s = true) (hown : s.vm.findClass own = some m.cls) (h1 : Cond.methodLink own idx objectInit ∈ Tw) (h2 : Cond.instanceMethod objectInit ∈ Tw) (h3 : Cond.code objectInit ⟨#[0xb1]⟩ 1 none ∈ Tw) (hk : 1 ≤ k) (hl : ls.size = nL) (hW : (rest.map fun v => v.category).sum ≤ 8) (hdg : decode cc pc = .ok (.invokespecial idx, 3))
    (kk : W p (eL E) e (rmk k mc ms) s m args below meth c H locs cells slots Q (F0 m (pc + 3) ls rest)) : W p (eL E) e (rmk k mc ms) s m args below meth c H locs cells slots Q (F0 m pc ls (.ref a :: rest)) := by
  refine W.objInit hx hb hown (hts _ h1) (hts _ h2) (hts _ h3) (g := F0 m pc ls (.ref a :: rest)) rfl (by rw [hml]; exact hl) rfl hdg hk ?_ kk
  show 2 * 0 + _ + 12 ≤ 40 * k
  omega
/-! calls of methods that may throw -/
theorem x_go {out : Option Value → Heap → Prop} {bad : String → Prop} {a : Array Value} (hB : eB E ≤ s.heap.size) (hE : EV E s H) (hS : va_S (fr E) s.heap H locs) (hr : vx_Run p (eL E) e R s m args below meth c H locs cells slots mc ms (F0 m pc ls st0) rest (CQ E out a) (XQ E bad) (fr E))
    (kx : ∀ (X : String) (ce : Cell) (q9 : Addr) (H1 : Heap) (locs1 : List Loc), bad X → H.size ≤ H1.size → (∀ q : Nat, q < H.size → H1[q]? = H[q]?) → EV E s H1 → va_S (fr E) s.heap H1 locs1 → H1[q9]? = some ce → ce.vm = .none → s.vm.findClass X = some ce.cls → vx_W p (eL E) e R s m args below meth c H1 locs1 (cells + mc) (slots + ms) Q (F0 m pc ls rest) q9)
    (kk : ∀ (v : Option Value) (H1 : Heap) (locs1 : List Loc), out v H1 → H.size ≤ H1.size → EV E s H1 → va_S (fr E) s.heap H1 locs1 → W p (eL E) e R s m args below meth c H1 locs1 (cells + mc) (slots + ms) Q (F0 m (pc + 3) ls (v.toList ++ rest))) : W p (eL E) e R s m args below meth c H locs cells slots Q (F0 m pc ls st0) := by
  intro T hT X
  rcases hr T hT X with ⟨w, st₀, t, T', L, e0, X', hL, e1, e2, hq, hgo⟩ | ⟨q9, st₀, t, T', L, En, ce, e0, X', hL, e1, e2, hq, hce, hcv, hcl, hgo⟩
  · obtain ⟨v, q1, q3, q4, q5⟩ := hq
    have hw : w = v := by injection q1
    subst hw
    rw [e0] at q4 q5
    obtain ⟨t2, a1, b1⟩ := kk w t.heap (locs ++ L) q3 q4 (hE.kept q4 q5) (hS.tr9 hB q4 q5 hL) T' e1 X'
    exact ⟨t2, hgo t2 a1, b1⟩
  · obtain ⟨q1, q4, q5⟩ := hq
    rw [e0] at q4 q5
    have q6 : ∀ q : Nat, q < eB E → t.heap[q]? = H[q]? := fun q hq => q5 q (Nat.lt_of_lt_of_le hq hE.2.1)
    obtain ⟨t2, a1, b1⟩ := kx En ce q9 t.heap (locs ++ L) q1 q4 q5 (hE.kept q4 q6) (hS.tr9 hB q4 q6 hL) hce hcv hcl T' e1 X'
    exact ⟨t2, hgo.trans a1, b1⟩
/-- what is thrown there goes on to the caller: nothing has been changed yet -/
theorem x_out {out2 : Option Value → Heap → Prop} {bad2 : String → Prop} {X : String} {ce : Cell} {q9 : Addr} {H1 : Heap} (hxt : ∀ x ∈ c.exceptionTable.toList, False) (hlk : meth.locks = false) (hH : s.heap = H) (hz : H.size ≤ H1.size) (ho : ∀ q : Nat, q < H.size → H1[q]? = H[q]?) (hS : va_S (fr E) s.heap H1 locs) (hcell : H1[q9]? = some ce) (hv : ce.vm = .none) (hcl : s.vm.findClass X = some ce.cls) (hbad : bad2 X) (hc : cells ≤ mc) (hs : slots ≤ ms) : vx_W p (eL E) e R s m args below meth c H1 locs cells slots (vx_MQ below (CQ E out2) (XQ E bad2) args s mc ms (fr E)) (F0 m pc ls rest) q9 :=
  vx_out (fun x hx => (hxt x hx).elim) hlk hcell hv hcl (fun t ht _ => ⟨hbad, by rw [ht, hH]; exact hz, fun q hq => by rw [ht]; rw [hH] at hq ⊢; exact ho q hq⟩) hS.2.2 hc hs
theorem xVc {out out2 : Option Value → Heap → Prop} {bad bad2 : String → Prop} (hx : p.tables.exec = Jvm.exec) (hb : c.code = cc) (hml : c.maxLocals = nL) (hlk : meth.locks = false) (hxt : ∀ x ∈ c.exceptionTable.toList, False) (hts : ∀ w ∈ Tw, w.before args s = true) (hown : s.vm.findClass own = some m.cls) (hB : eB E ≤ s.heap.size) (hE : EV E s H) (hH : s.heap = H) (hS : va_S (fr E) s.heap H locs) (kw : kwV own idx y b mL ret n) (hM : XCon E y b mL ret k' mc' ms' (.ref a :: As) H out bad) (hbad : ∀ X, bad X → bad2 X) (hO : OB E ci fs a H) (hc : vwCl[ci]? = some (y.cls, T, N)) (hk : k' + 1 ≤ k) (hn : As.length = n) (hl : ls.size = nL) (hst : st0 = As.reverse ++ .ref a :: rest) (hW : (rest.map fun v => v.category).sum ≤ 8) (hcs : cells + mc' ≤ mc) (hss : slots + ms' ≤ ms) (hdg : decode cc pc = .ok (.invokevirtual idx, 3))
    (kk : ∀ (v : Option Value) (H1 : Heap) (locs1 : List Loc), out v H1 → H.size ≤ H1.size → EV E s H1 → va_S (fr E) s.heap H1 locs1 → W p (eL E) e (rmk k mc ms) s m args below meth c H1 locs1 (cells + mc') (slots + ms') (vx_MQ below (CQ E out2) (XQ E bad2) args s mc ms (fr E)) (F0 m (pc + 3) ls (v.toList ++ rest))) : W p (eL E) e (rmk k mc ms) s m args below meth c H locs cells slots (vx_MQ below (CQ E out2) (XQ E bad2) args s mc ms (fr E)) (F0 m pc ls st0) :=
  x_go hB hE hS (vx_runV (g := F0 m pc ls st0) (As := As) (rest := rest) ⟨hx, hb, hml, hown, hts⟩ hM (cwV9 hts kw hk) ⟨PC.blind, recv9 hE hO hc, fun U hU hW => ⟨rfl, hU, by rw [hU]; exact hE.warm hW⟩⟩ rfl hn hl hst (lv_room hW) hdg ⟨hcs, hss⟩)
    (fun X ce q9 H1 locs1 h1 h2 h3 h4 h5 h6 h7 h8 => x_out hxt hlk hH h2 h3 h5 h6 h7 h8 (hbad X h1) hcs hss) kk
theorem xSc {out out2 : Option Value → Heap → Prop} {bad bad2 : String → Prop} (hx : p.tables.exec = Jvm.exec) (hb : c.code = cc) (hml : c.maxLocals = nL) (hlk : meth.locks = false) (hxt : ∀ x ∈ c.exceptionTable.toList, False) (hts : ∀ w ∈ Tw, w.before args s = true) (hown : s.vm.findClass own = some m.cls) (hB : eB E ≤ s.heap.size) (hE : EV E s H) (hH : s.heap = H) (hS : va_S (fr E) s.heap H locs) (kw : kwS own idx y b mL ret n) (hM : XCon E y b mL ret k' mc' ms' As H out bad) (hbad : ∀ X, bad X → bad2 X) (hk : k' + 1 ≤ k) (hn : As.length = n) (hl : ls.size = nL) (hst : st0 = As.reverse ++ rest) (hW : (rest.map fun v => v.category).sum ≤ 8) (hcs : cells + mc' ≤ mc) (hss : slots + ms' ≤ ms) (hdg : decode cc pc = .ok (.invokestatic idx, 3))
    (kk : ∀ (v : Option Value) (H1 : Heap) (locs1 : List Loc), out v H1 → H.size ≤ H1.size → EV E s H1 → va_S (fr E) s.heap H1 locs1 → W p (eL E) e (rmk k mc ms) s m args below meth c H1 locs1 (cells + mc') (slots + ms') (vx_MQ below (CQ E out2) (XQ E bad2) args s mc ms (fr E)) (F0 m (pc + 3) ls (v.toList ++ rest))) : W p (eL E) e (rmk k mc ms) s m args below meth c H locs cells slots (vx_MQ below (CQ E out2) (XQ E bad2) args s mc ms (fr E)) (F0 m pc ls st0) :=
  x_go hB hE hS (vx_runS (g := F0 m pc ls st0) (As := As) (rest := rest) ⟨hx, hb, hml, hown, hts⟩ hM (cwS9 hts kw hk) ⟨PC.blind, fun U hU hW => ⟨rfl, hU, by rw [hU]; exact hE.warm hW⟩⟩ rfl hn hl hst (lv_room hW) hdg ⟨hcs, hss⟩)
    (fun X ce q9 H1 locs1 h1 h2 h3 h4 h5 h6 h7 h8 => x_out hxt hlk hH h2 h3 h5 h6 h7 h8 (hbad X h1) hcs hss) kk
end GC
/-! throws: 'throw new E("text")' in the class itself -/
theorem txI0 : ∀ w ∈ (vx_atS RX4 34 "java/lang/IndexOutOfBoundsException" ["java/lang/RuntimeException", "java/lang/Exception"]).filter goodWord, w ∈ lw_tbl := by decide +kernel
theorem txS0 : ∀ w ∈ (vx_atS RX4 57 "java/lang/IllegalStateException" ["java/lang/RuntimeException", "java/lang/Exception"]).filter goodWord, w ∈ lw_tbl := by decide +kernel
theorem txA0 : ∀ w ∈ (vx_atS RX4 180 "java/lang/IllegalArgumentException" ["java/lang/RuntimeException", "java/lang/Exception"]).filter goodWord, w ∈ lw_tbl := by decide +kernel
def TXw (ik ic : Nat) (X : String) : Prop := (∀ w ∈ (vx_atS RX4 ic X ["java/lang/RuntimeException", "java/lang/Exception"]).filter goodWord, w ∈ lw_tbl) ∧ (∀ w ∈ (vx_atS RX4 ic X ["java/lang/RuntimeException", "java/lang/Exception"]).filter (fun w => !goodWord w), w ∈ ([Cond.castable X X, .declares ⟨"java/lang/RuntimeException", "<init>", "(Ljava/lang/String;)V"⟩, .declares ⟨"java/lang/Exception", "<init>", "(Ljava/lang/String;)V"⟩, .declares ⟨"java/lang/Throwable", "<init>", "(Ljava/lang/String;)V"⟩] : List Cond)) ∧ (X, X) ∈ casL ∧ Cond.classLink RX4 ik X ∈ Tw ∧ Cond.initialized X ∈ Tw ∧ (∀ w ∈ Cond.classLink RX4 ik X :: Cond.initialized X :: vx_atS RX4 ic X ["java/lang/RuntimeException", "java/lang/Exception"], vx_ot w = true) ∧ Bundle.fit X = true
theorem tS {p : Program} {e : Env} {s : State} {m : MethodId} {args : Array Value} {below : List Frame} {meth : Method} {c : Code} {H : Heap} {locs : List Loc} {cells slots k mc ms ik ic is pc nL : Nat} {cc : ByteArray} {ls : Array Slot} {rest : List Value} {E : ET} {X text : String} {out2 : Option Value → Heap → Prop} {bad2 : String → Prop}
    (hx : p.tables.exec = Jvm.exec) (hb : c.code = cc) (hml : c.maxLocals = nL) (hlk : meth.locks = false) (hxt : ∀ x ∈ c.exceptionTable.toList, False) (hts : ∀ w ∈ Tw, w.before args s = true) (hown : s.vm.findClass RX4 = some m.cls) (hE : EV E s s.heap) (hH : s.heap = H) (hS : va_S (fr E) s.heap H locs) (hw : TXw ik ic X) (hstr : (is, text) ∈ strL) (hbad : bad2 X) (hl : ls.size = nL) (hW : (rest.map fun v => v.category).sum ≤ 8) (hk : 6 ≤ k) (hc : cells + 1 ≤ mc) (hs : slots + 6 ≤ ms)
    (d0 : decode cc pc = .ok (.new ik, 3)) (d3 : decode cc (pc + 3) = .ok (.dup, 1)) (d4 : decode cc (pc + 4) = .ok (.ldc is, 2)) (d6 : decode cc (pc + 6) = .ok (.invokespecial ic, 3)) (d9 : decode cc (pc + 9) = .ok (.athrow, 1)) :
    W p (eL E) e (rmk k mc ms) s m args below meth c H locs cells slots (vx_MQ below (CQ E out2) (XQ E bad2) args s mc ms (fr E)) (F0 m pc ls rest) := by
  obtain ⟨w1, w2, w3, w4, w5, w6, w7⟩ := hw
  obtain ⟨sa, hsa⟩ := hE.2.2.2.2.2.2.2.2.1 (is, text) hstr
  have hca : va_Nw (.castable X X) s := hE.2.2.2.2.2.2.2.2.2.1 (X, X) w3
  have hD := hE.2.2.2.2.2.2.2.2.2.2.2.2.2.2
  refine vx_throwS (own := RX4) (cls := X) (text := text) (names := ["java/lang/RuntimeException", "java/lang/Exception"]) (sa := sa) hx hb hE.2.2.2.2.2.2.2.1 hown w7 (by decide +kernel) (hts _ w4) (hts _ w5) hsa
    (vx_hat (fun w hw => hts w (List.mem_filter.mpr ⟨w1 w hw, (List.mem_filter.mp hw).2⟩)) w2 (vx_c (va_Nw.use rfl hca) (vx_c (va_Nw.use rfl (hD _ (by decide))) (vx_c (va_Nw.use rfl (hD _ (by decide))) (vx_c (va_Nw.use rfl (hD _ (by decide))) vx_n))))) w6 hE.2.2.2.2.2.1 hE.2.2.2.2.2.2.1 hS (by rw [hml]; exact hl) d0 d3 d4 d6 d9 (fun x hx => (hxt x hx).elim) (by show 2 + 3 < k; omega) (by show _ + (13 * (2 + 1) + 43) ≤ 40 * k; omega) hc hs hlk ?_ hS.2.2 hc hs
  intro t _ hz ho
  subst hH
  exact ⟨hbad, hz, ho⟩
theorem txI : TXw 30 34 xI := ⟨txI0, by decide +kernel, by decide, qw1_111, qw1_11, by decide +kernel, by decide +kernel⟩
theorem txS : TXw 53 57 xS := ⟨txS0, by decide +kernel, by decide, qw1_230, qw1_15, by decide +kernel, by decide +kernel⟩
theorem txA : TXw 176 180 xA := ⟨txA0, by decide +kernel, by decide, qw1_182, qw1_12, by decide +kernel, by decide +kernel⟩
end
section
theorem pkJx4a65c_9 : PK RJx4a65c 9 RJx4a65c TJx4a65c 3 0 1 "java/util/ArrayList" tyJx4a65c := ⟨lkJx4a65c_9, tyJx4a65c_ok, nmJx4a65c⟩
theorem pkJx4a65c_48 : PK RJx4a65c 48 RJx4a65c TJx4a65c 3 0 2 "java/util/ArrayList" tyJx4a65c := ⟨lkJx4a65c_48, tyJx4a65c_ok, nmJx4a65c⟩
theorem pkJxc12de_7 : PK RJxc12de 7 RJx4a65c TJx4a65c 3 0 0 "java/util/AbstractList" tyJx4a65c := ⟨lkJxc12de_7, tyJx4a65c_ok, nmJx4a65c⟩
theorem pkJx4a65c_63 : PK RJx4a65c 63 RJx4a65c TJx4a65c 3 0 0 "java/util/ArrayList" tyJx4a65c := ⟨lkJx4a65c_63, tyJx4a65c_ok, nmJx4a65c⟩
theorem pkX1_12 : PK RX1 12 RX1 TX1 1 2 0 "Resetline$Diary" tyX1 := ⟨lkX1_12, tyX1_ok, nmX1⟩
theorem pkX0_12 : PK RX0 12 RX0 TX0 2 1 0 "Resetline$Calendar" tyX0 := ⟨lkX0_12, tyX0_ok, nmX0⟩
theorem pkX0_18 : PK RX0 18 RX0 TX0 2 1 1 "Resetline$Calendar" tyX0 := ⟨lkX0_18, tyX0_ok, nmX0⟩
theorem pkX4_10 : PK RX4 10 RX4 TX4 3 5 0 "Resetline" tyX4 := ⟨lkX4_10, tyX4_ok, nmX4⟩
theorem pkX4_19 : PK RX4 19 RX4 TX4 3 5 1 "Resetline" tyX4 := ⟨lkX4_19, tyX4_ok, nmX4⟩
theorem pkX4_26 : PK RX4 26 RX4 TX4 3 5 2 "Resetline" tyX4 := ⟨lkX4_26, tyX4_ok, nmX4⟩
theorem pkX2_7 : PK RX2 7 RX2 TX2 2 3 0 "Resetline$Entry" tyX2 := ⟨lkX2_7, tyX2_ok, nmX2⟩
theorem pkX1_45 : PK RX1 45 RX2 TX2 2 3 0 "Resetline$Entry" tyX2 := ⟨lkX1_45, tyX2_ok, nmX2⟩
theorem pkX2_13 : PK RX2 13 RX2 TX2 2 3 1 "Resetline$Entry" tyX2 := ⟨lkX2_13, tyX2_ok, nmX2⟩
theorem pkX1_37 : PK RX1 37 RX2 TX2 2 3 1 "Resetline$Entry" tyX2 := ⟨lkX1_37, tyX2_ok, nmX2⟩
theorem pkX3_9 : PK RX3 9 RX3 TX3 13 4 0 "Resetline$Swap" tyX3 := ⟨lkX3_9, tyX3_ok, nmX3⟩
theorem pkX3_15 : PK RX3 15 RX3 TX3 13 4 1 "Resetline$Swap" tyX3 := ⟨lkX3_15, tyX3_ok, nmX3⟩
theorem pkX3_18 : PK RX3 18 RX3 TX3 13 4 2 "Resetline$Swap" tyX3 := ⟨lkX3_18, tyX3_ok, nmX3⟩
theorem pkX3_22 : PK RX3 22 RX3 TX3 13 4 3 "Resetline$Swap" tyX3 := ⟨lkX3_22, tyX3_ok, nmX3⟩
theorem pkX3_25 : PK RX3 25 RX3 TX3 13 4 4 "Resetline$Swap" tyX3 := ⟨lkX3_25, tyX3_ok, nmX3⟩
theorem pkX3_28 : PK RX3 28 RX3 TX3 13 4 5 "Resetline$Swap" tyX3 := ⟨lkX3_28, tyX3_ok, nmX3⟩
theorem pkX3_31 : PK RX3 31 RX3 TX3 13 4 6 "Resetline$Swap" tyX3 := ⟨lkX3_31, tyX3_ok, nmX3⟩
theorem pkX4_190 : PK RX4 190 RX3 TX3 13 4 6 "Resetline$Swap" tyX3 := ⟨lkX4_190, tyX3_ok, nmX3⟩
theorem pkX3_34 : PK RX3 34 RX3 TX3 13 4 7 "Resetline$Swap" tyX3 := ⟨lkX3_34, tyX3_ok, nmX3⟩
theorem pkX4_111 : PK RX4 111 RX3 TX3 13 4 7 "Resetline$Swap" tyX3 := ⟨lkX4_111, tyX3_ok, nmX3⟩
theorem pkX3_37 : PK RX3 37 RX3 TX3 13 4 8 "Resetline$Swap" tyX3 := ⟨lkX3_37, tyX3_ok, nmX3⟩
theorem pkX4_115 : PK RX4 115 RX3 TX3 13 4 8 "Resetline$Swap" tyX3 := ⟨lkX4_115, tyX3_ok, nmX3⟩
theorem pkX3_40 : PK RX3 40 RX3 TX3 13 4 9 "Resetline$Swap" tyX3 := ⟨lkX3_40, tyX3_ok, nmX3⟩
theorem pkX4_118 : PK RX4 118 RX3 TX3 13 4 9 "Resetline$Swap" tyX3 := ⟨lkX4_118, tyX3_ok, nmX3⟩
theorem pkX3_46 : PK RX3 46 RX3 TX3 13 4 10 "Resetline$Swap" tyX3 := ⟨lkX3_46, tyX3_ok, nmX3⟩
theorem pkX4_106 : PK RX4 106 RX3 TX3 13 4 10 "Resetline$Swap" tyX3 := ⟨lkX4_106, tyX3_ok, nmX3⟩
theorem pkX3_50 : PK RX3 50 RX3 TX3 13 4 11 "Resetline$Swap" tyX3 := ⟨lkX3_50, tyX3_ok, nmX3⟩
theorem pkX4_126 : PK RX4 126 RX3 TX3 13 4 11 "Resetline$Swap" tyX3 := ⟨lkX4_126, tyX3_ok, nmX3⟩
theorem pkX3_53 : PK RX3 53 RX3 TX3 13 4 12 "Resetline$Swap" tyX3 := ⟨lkX3_53, tyX3_ok, nmX3⟩
theorem pkX5_71 : PK RX5 71 RX5 TX5 24 6 0 "ResetlineModel" tyX5 := ⟨lkX5_71, tyX5_ok, nmX5⟩
theorem pkX5_7 : PK RX5 7 RX5 TX5 24 6 1 "ResetlineModel" tyX5 := ⟨lkX5_7, tyX5_ok, nmX5⟩
theorem pkX5_13 : PK RX5 13 RX5 TX5 24 6 2 "ResetlineModel" tyX5 := ⟨lkX5_13, tyX5_ok, nmX5⟩
theorem pkX5_17 : PK RX5 17 RX5 TX5 24 6 3 "ResetlineModel" tyX5 := ⟨lkX5_17, tyX5_ok, nmX5⟩
theorem pkX5_20 : PK RX5 20 RX5 TX5 24 6 4 "ResetlineModel" tyX5 := ⟨lkX5_20, tyX5_ok, nmX5⟩
theorem pkX5_99 : PK RX5 99 RX5 TX5 24 6 5 "ResetlineModel" tyX5 := ⟨lkX5_99, tyX5_ok, nmX5⟩
theorem pkX5_79 : PK RX5 79 RX5 TX5 24 6 6 "ResetlineModel" tyX5 := ⟨lkX5_79, tyX5_ok, nmX5⟩
theorem pkX5_23 : PK RX5 23 RX5 TX5 24 6 7 "ResetlineModel" tyX5 := ⟨lkX5_23, tyX5_ok, nmX5⟩
theorem pkX5_26 : PK RX5 26 RX5 TX5 24 6 8 "ResetlineModel" tyX5 := ⟨lkX5_26, tyX5_ok, nmX5⟩
theorem pkX5_29 : PK RX5 29 RX5 TX5 24 6 9 "ResetlineModel" tyX5 := ⟨lkX5_29, tyX5_ok, nmX5⟩
theorem pkX5_32 : PK RX5 32 RX5 TX5 24 6 10 "ResetlineModel" tyX5 := ⟨lkX5_32, tyX5_ok, nmX5⟩
theorem pkX5_35 : PK RX5 35 RX5 TX5 24 6 11 "ResetlineModel" tyX5 := ⟨lkX5_35, tyX5_ok, nmX5⟩
theorem pkX5_38 : PK RX5 38 RX5 TX5 24 6 12 "ResetlineModel" tyX5 := ⟨lkX5_38, tyX5_ok, nmX5⟩
theorem pkX5_41 : PK RX5 41 RX5 TX5 24 6 13 "ResetlineModel" tyX5 := ⟨lkX5_41, tyX5_ok, nmX5⟩
theorem pkX5_44 : PK RX5 44 RX5 TX5 24 6 14 "ResetlineModel" tyX5 := ⟨lkX5_44, tyX5_ok, nmX5⟩
theorem pkX5_47 : PK RX5 47 RX5 TX5 24 6 15 "ResetlineModel" tyX5 := ⟨lkX5_47, tyX5_ok, nmX5⟩
theorem pkX5_50 : PK RX5 50 RX5 TX5 24 6 16 "ResetlineModel" tyX5 := ⟨lkX5_50, tyX5_ok, nmX5⟩
theorem pkX5_108 : PK RX5 108 RX5 TX5 24 6 17 "ResetlineModel" tyX5 := ⟨lkX5_108, tyX5_ok, nmX5⟩
theorem pkX5_53 : PK RX5 53 RX5 TX5 24 6 18 "ResetlineModel" tyX5 := ⟨lkX5_53, tyX5_ok, nmX5⟩
theorem pkX5_56 : PK RX5 56 RX5 TX5 24 6 19 "ResetlineModel" tyX5 := ⟨lkX5_56, tyX5_ok, nmX5⟩
theorem pkX5_59 : PK RX5 59 RX5 TX5 24 6 20 "ResetlineModel" tyX5 := ⟨lkX5_59, tyX5_ok, nmX5⟩
theorem pkX5_62 : PK RX5 62 RX5 TX5 24 6 21 "ResetlineModel" tyX5 := ⟨lkX5_62, tyX5_ok, nmX5⟩
theorem pkX5_65 : PK RX5 65 RX5 TX5 24 6 22 "ResetlineModel" tyX5 := ⟨lkX5_65, tyX5_ok, nmX5⟩
theorem pkX5_68 : PK RX5 68 RX5 TX5 24 6 23 "ResetlineModel" tyX5 := ⟨lkX5_68, tyX5_ok, nmX5⟩
theorem nkL_8 : NK RL 8 RX4 TX4 3 5 tyX4 := ⟨iwX4, rfl, qw1_22, qw1_23, qw1_1, tyX4_ok⟩
theorem nkX4_7 : NK RX4 7 RX0 TX0 2 1 tyX0 := ⟨iwX0, rfl, qw1_30, qw1_31, qw1_2, tyX0_ok⟩
theorem nkX0_9 : NK RX0 9 RX1 TX1 1 2 tyX1 := ⟨iwX1, rfl, qw1_36, qw1_37, qw1_3, tyX1_ok⟩
theorem nkX1_9 : NK RX1 9 RJx4a65c TJx4a65c 3 0 tyJx4a65c := ⟨iwJx4a65c, rfl, qw1_42, qw1_43, qw1_6, tyJx4a65c_ok⟩
theorem nkX4_16 : NK RX4 16 RX1 TX1 1 2 tyX1 := ⟨iwX1, rfl, qw1_79, qw1_37, qw1_3, tyX1_ok⟩
theorem nkX4_23 : NK RX4 23 RJx4a65c TJx4a65c 3 0 tyJx4a65c := ⟨iwJx4a65c, rfl, qw1_81, qw1_43, qw1_6, tyJx4a65c_ok⟩
theorem nkX1_26 : NK RX1 26 RX2 TX2 2 3 tyX2 := ⟨iwX2, rfl, qw1_229, qw2_10, qw1_16, tyX2_ok⟩
theorem nkX4_90 : NK RX4 90 RX3 TX3 13 4 tyX3 := ⟨iwX3, rfl, qw2_86, qw2_155, qw1_21, tyX3_ok⟩
theorem nkX3_43 : NK RX3 43 RX1 TX1 1 2 tyX1 := ⟨iwX1, rfl, qw2_160, qw1_37, qw1_3, tyX1_ok⟩
theorem nkL_84 : NK RL 84 RX5 TX5 24 6 tyX5 := ⟨iwX5, rfl, qw3_159, qw3_160, qw1_7, tyX5_ok⟩
theorem qnGC : Cond.native ⟨"java/lang/Object", "getClass", "()Ljava/lang/Class;"⟩ ∈ Tw := tw2 66 rfl rfl
theorem qnAC : Cond.native arraycopyName ∈ Tw := tw2 78 rfl rfl
/-- an ArrayList of c elements, as its writer sees it: L its label -/
def LRo (E : ET) (ow : Nat → Nat × Nat) (L a c : Nat) (ad : Nat → Nat) (H : Heap) : Prop := ∃ (mo : Int32) (arr n : Nat) (f : Nat → Option Nat), OB E 0 [.int mo, .ref arr, .int (nI c)] a H ∧ QA E n f arr H ∧ c ≤ n ∧ n ≤ 2 * c + 10 ∧ (∀ i, i < c → f i = some (ad i)) ∧ ow a = (L, 1) ∧ eB E ≤ a ∧ ((arr = eF E ∧ n = 0) ∨ (ow arr = (L, 2) ∧ eB E ≤ arr ∧ 2 ≤ n))
theorem LRo.LR {E : ET} {ow : Nat → Nat × Nat} {L a c : Nat} {ad : Nat → Nat} {H : Heap} (h : LRo E ow L a c ad H) (hc : c < 2 ^ 29) : LR E a c ad H := by
  obtain ⟨mo, arr, n, f, h1, h2, h3, h4, h5, -⟩ := h
  exact ⟨mo, arr, n, f, h1, h2, h3, by omega, h5⟩
/-- new cells get the label -/
def owx (ow : Nat → Nat × Nat) (H : Heap) (x : Nat × Nat) : Nat → Nat × Nat := fun q => if q < H.size then ow q else x
theorem owx_old {ow : Nat → Nat × Nat} {H : Heap} {x : Nat × Nat} {q : Nat} (h : q < H.size) : owx ow H x q = ow q := if_pos h
theorem owx_new {ow : Nat → Nat × Nat} {H : Heap} {x : Nat × Nat} {q : Nat} (h : H.size ≤ q) : owx ow H x q = x := if_neg (Nat.not_lt.mpr h)
theorem ga_get {n c : Nat} (hn : c = n) (h2 : 2 ≤ n) (hb : n ≤ 40000) : (nI n >>> ((1 : Int32) &&& 31)) = nI (n / 2) := by
  have k := pk_shrN (n := n) (by omega) ((1 : Int32) &&& 31) 1 (by decide)
  rw [Nat.pow_one] at k
  exact k
set_option maxRecDepth 100000 in
set_option maxHeartbeats 4000000 in
/-- ArraysSupport.newLength -/
theorem c_newLen (E : ET) (n : Nat) (H : Heap) (h2 : 2 ≤ n) (hb9 : n ≤ 40000) : PCon E yJ8_newLength_cabcc cJ8_newLength_cabcc 4 (some FieldType.int) 2 [.int (nI n), .int 1, .int (nI (n / 2))] H (some (.int (nI (n + n / 2)))) := by
  refine PCon.of (C := RJ8) rfl (by decide +kernel) (Nat.le_of_ble_eq_true rfl) ?_
  intro p e s m below meth co ls hx hb hr hlk hml hown hts hE hH hl
  have hl : lv_has ls 4 [(0, .int (nI n)), (1, .int 1), (2, .int (nI (n / 2)))] := hl
  refine lv_iload_n hx hb dJ8_newLength_cabcc_0 rfl (lv_at hl 0 rfl) ?_
  refine lv_iload_n hx hb dJ8_newLength_cabcc_1 rfl (lv_at hl 1 rfl) ?_
  refine lv_iload_n hx hb dJ8_newLength_cabcc_2 rfl (lv_at hl 2 rfl) ?_
  refine va_mmax hx hb (by rw [hml]; exact hl.1.symm) hown (hts _ qw2_43) (hts _ qw2_44) (hts _ qw1_18) (hts _ qw2_45) (Nat.le_of_ble_eq_true rfl) (by show _ ≤ 80; simp [Value.category]) (Nat.le_refl _) (Nat.le_refl _) dJ8_newLength_cabcc_3 ?_
  have em : (if (1 : Int32) < nI (n / 2) then nI (n / 2) else 1) = nI (n / 2) := by
    by_cases c : 1 < n / 2
    · rw [if_pos (show (1 : Int32) < nI (n / 2) from nI_lt (a := 1) c (by omega))]
    · rw [if_neg (show ¬ (1 : Int32) < nI (n / 2) from nI_nlt (b := n / 2) (a := 1) (by omega) (by decide))]; have : n / 2 = 1 := by omega
      rw [this]; rfl
  rw [em]
  refine lv_iadd hx hb dJ8_newLength_cabcc_6 ?_
  rw [nI_add n (n / 2)]
  refine lv_istore_n (lv' := [(3, .int (nI (n + n / 2))), (0, .int (nI n)), (1, .int 1), (2, .int (nI (n / 2)))]) hx hb dJ8_newLength_cabcc_7 rfl hl (by decide) rfl (fun ls hl => ?_)
  refine lv_iconst (v := 0) hx hb dJ8_newLength_cabcc_8 (by decide) ?_
  refine lv_iload_n hx hb dJ8_newLength_cabcc_9 rfl (lv_at hl 0 rfl) ?_
  refine lv_icmp_ge (tgt := 21) hx hb dJ8_newLength_cabcc_10 (by decide) (fun c => ?_) (fun c => ?_)
  · exact absurd c (show ¬ nI (n + n / 2) ≤ nI 0 from nI_ge (by omega) (by omega))
  refine lv_iload_n hx hb dJ8_newLength_cabcc_13 rfl (lv_at hl 0 rfl) ?_
  refine lv_ldc (v := 2147483639) hx hb hown (hts _ qw2_46) dJ8_newLength_cabcc_14 ?_
  refine lv_icmp_gt (tgt := 21) hx hb dJ8_newLength_cabcc_16 (by decide) (fun c => ?_) (fun c => ?_)
  · exact absurd c (show ¬ nI 2147483639 < nI (n + n / 2) from nI_nlt (by omega) (by decide))
  refine lv_iload_n hx hb dJ8_newLength_cabcc_19 rfl (lv_at hl 0 rfl) ?_
  exact pI hx hb hr hlk hH rfl dJ8_newLength_cabcc_20

set_option maxRecDepth 100000 in
set_option maxHeartbeats 4000000 in
/-- Arrays.copyOf of references, by the class -/
theorem c_copy3 (E : ET) (arr n n2 ci : Nat) (f : Nat → Option Nat) (C : String) (T : u_T) (N : Nat) (H : Heap) (hA : QA E n f arr H) (hg : eB E ≤ arr) (hn : n ≤ n2) (hn2 : n2 ≤ 90000) (hc : vwCl[ci]? = some (C, T, N)) (hca : (C, xO) ∈ casL) (hel : ∀ i, i < n → ∀ y, f i = some y → ∃ fs, OB E ci fs y H) : Con E yJ7_copyOf_6403c cJ7_copyOf_6403c 4 (some (FieldType.array (FieldType.object "java/lang/Object"))) 2 1 n2 [.ref arr, .int (nI n2), .ref (eM E)] H (o1 (some (.ref H.size)) (fun H' => QA E n2 (va_cpy f (fun _ => none) 0 0 n) H.size H' ∧ FR (fun _ => False) H H')) := by
  refine Con.of (C := RJ7) rfl (by decide +kernel) (Nat.le_of_ble_eq_true rfl) ?_
  intro p e s m below meth co ls hx hb hr hlk hml hown hts hin hE hH hS hl
  have hl : lv_has ls 4 [(0, .ref arr), (1, .int (nI n2)), (2, .ref (eM E))] := hl
  have hB : eB E ≤ s.heap.size := by rw [hH]; exact hE.2.1
  refine lv_aload_n hx hb dJ7_copyOf_6403c_0 rfl (lv_at hl 2 rfl) ?_
  refine va_ldcM hx hb hown (hts _ qw2_70) hE.2.2.2.2.2.2.2.2.2.2.2.1 dJ7_copyOf_6403c_1 ?_
  refine lv_acmp_ne (rx := some (eM E)) (ry := some (eM E)) (tgt := 13) hx hb dJ7_copyOf_6403c_3 (by decide) (fun c => absurd rfl c) (fun _ => ?_)
  refine lv_iload_n hx hb dJ7_copyOf_6403c_6 rfl (lv_at hl 1 rfl) ?_
  refine naQ hx hb hts hown hE hS qw2_72 rfl (by omega) (by omega) (by omega) dJ7_copyOf_6403c_7 (fun q H1 ea1 hN hz1 hq1 hE hS hg1 => ?_)
  have hA1 := pk3 hA hq1
  refine lv_goto (tgt := 24) hx hb dJ7_copyOf_6403c_10 (by decide) ?_
  refine lv_astore_n (lv' := [(3, .ref q), (0, .ref arr), (1, .int (nI n2)), (2, .ref (eM E))]) hx hb dJ7_copyOf_6403c_24 rfl hl (by decide) rfl (fun ls hl => ?_)
  refine lv_aload_n hx hb dJ7_copyOf_6403c_25 rfl (lv_at hl 1 rfl) ?_
  refine lv_iconst (v := 0) hx hb dJ7_copyOf_6403c_26 (by decide) ?_
  refine lv_aload_n hx hb dJ7_copyOf_6403c_27 rfl (lv_at hl 0 rfl) ?_
  refine lv_iconst (v := 0) hx hb dJ7_copyOf_6403c_28 (by decide) ?_
  refine lv_aload_n hx hb dJ7_copyOf_6403c_29 rfl (lv_at hl 1 rfl) ?_
  refine aLQ hx hb hE hA1 dJ7_copyOf_6403c_30 ?_
  refine lv_iload_n hx hb dJ7_copyOf_6403c_31 rfl (lv_at hl 2 rfl) ?_
  refine va_mmin hx hb (by rw [hml]; exact hl.1.symm) hown (hts _ qw2_73) (hts _ qw2_74) (hts _ qw1_18) (hts _ qw2_75) (Nat.le_of_ble_eq_true rfl) (by show _ ≤ 80; simp [Value.category]) (by show 0 + 1 ≤ 1; omega) (by show 0 + n2 ≤ n2; omega) dJ7_copyOf_6403c_32 ?_
  generalize hv : (if nI n2 < nI n then nI n2 else nI n) = v
  have hv : v = nI n := by rw [← hv, if_neg (nI_nlt hn (by omega))]
  subst hv
  have hP : va_P (eD E) vwCl [(arr, .inl (eA E 2, n, .inr (.inr (.inr (.inr f))))), (q, .inl (eA E 2, n2, .inr (.inr (.inr (.inr (fun _ => none))))))] H1 := hA1.app hN
  have hne : arr ≠ q := by have := plt hA; omega
  have hD : va_D (fun z : Nat => H.size ≤ z ∨ z = arr) [(arr, .inl (eA E 2, n, .inr (.inr (.inr (.inr f))))), (q, .inl (eA E 2, n2, .inr (.inr (.inr (.inr (fun _ => none))))))] := by
    refine ⟨fun i j x y hi hj he => ?_, fun k x hk => ?_⟩
    · match i, j, hi, hj with
      | 0, 0, _, _ => rfl
      | 1, 1, _, _ => rfl
      | 0, 1, hi, hj => cases hi; cases hj; exact absurd he hne
      | 1, 0, hi, hj => cases hi; cases hj; exact absurd he.symm hne
      | i + 2, _, hi, _ => simp at hi
      | _, j + 2, _, hj => simp at hj
    · match k, hk with
      | 0, hk => cases hk; exact Or.inr rfl
      | 1, hk => cases hk; exact Or.inl (by omega)
      | k + 2, hk => simp at hk
  have hSq : va_S (fun z : Nat => H.size ≤ z ∨ z = arr) s.heap H1 [] := ⟨by rw [hH]; omega, fun z hz _ => by rw [hH] at hz ⊢; exact hq1 z hz, fun z hz => by cases hz⟩
  refine va_copyq (C := C) (E0 := xO) (E1 := xO) hx hb (by rw [hml]; exact hl.1.symm) hown (hts _ qw2_76) (hts _ qnAC) (hts _ qw2_77) (hts _ qw1_20) hE.K hP hD hSq 0 1 2 2 rfl rfl rfl rfl (show ¬ (0 : Int32) < 0 by decide) (show ¬ (0 : Int32) < 0 by decide) (nI_pos (by omega)) (by rw [nI_clamp (by omega), sb_cl0]; omega) (by rw [nI_clamp (by omega), sb_cl0]; omega) (fun i hi y hy => ?_) (fun comp c0 f1 f2 => ?_) (Nat.le_of_ble_eq_true rfl) (by show _ ≤ 80; simp only [nativeFrameWords]; decide) dJ7_copyOf_6403c_35 (fun H2 L2 hP2 hD2 hS2 => ?_)
  · rw [nI_clamp (by omega)] at hi
    rw [sb_cl0, Nat.zero_add] at hy
    obtain ⟨fs, hO⟩ := hel i hi y hy
    exact recv9 hE (pk3 hO hq1) hc
  · have hcaN : va_Nw (.castable C xO) s := hE.2.2.2.2.2.2.2.2.2.1 (C, xO) hca
    obtain ⟨k0, t1, g1, g2, g3⟩ := Cond.castable_spec (va_Nw.use (A := #[]) rfl hcaN)
    cases g1.symm.trans f2
    cases g2.symm.trans f1
    exact g3
  rw [nI_clamp (show n < 2 ^ 31 by omega), sb_cl0] at hP2
  have hF : FR (fun _ => False) H H2 := by
    refine ⟨Nat.le_trans (Nat.le_of_eq (by rw [hH])) hS2.1, fun z hz _ => ?_⟩
    by_cases hza : z = arr
    · rw [hza]; exact (hP2 0 _ rfl).trans (hA 0 _ rfl).symm
    · have := hS2.2.1 z (by rw [hH]; exact hz) (fun h => h.elim (fun h => by omega) hza)
      rw [hH] at this; exact this
  have hS : va_S (fr E) s.heap H2 L2 := ⟨hS2.1, fun z hz _ => by rw [hH] at hz ⊢; exact hF.2 z hz (fun h => h), fun z hz => (hS2.2.2 z hz).elim (fun h => Nat.le_trans hB (by rw [hH]; exact h)) (fun h => by rw [h]; exact hg)⟩
  refine lv_aload_n hx hb dJ7_copyOf_6403c_38 rfl (lv_at hl 0 rfl) ?_
  exact cR hx hb hr (Or.inr ⟨_, rfl⟩) (Or.inr ⟨_, rfl⟩) hlk hB hS (by omega) (by omega) (⟨by rw [ea1], by rw [← ea1]; exact one9 (hP2 1 _ rfl), hF⟩) dJ7_copyOf_6403c_39

set_option maxRecDepth 100000 in
set_option maxHeartbeats 4000000 in
/-- Arrays.copyOf of references -/
theorem c_copy2 (E : ET) (arr n n2 ci : Nat) (f : Nat → Option Nat) (C : String) (T : u_T) (N : Nat) (H : Heap) (hA : QA E n f arr H) (hg : eB E ≤ arr) (hn : n ≤ n2) (hn2 : n2 ≤ 90000) (hc : vwCl[ci]? = some (C, T, N)) (hca : (C, xO) ∈ casL) (hel : ∀ i, i < n → ∀ y, f i = some y → ∃ fs, OB E ci fs y H) : Con E yJ7_copyOf_1904c cJ7_copyOf_1904c 2 (some (FieldType.array (FieldType.object "java/lang/Object"))) 3 1 n2 [.ref arr, .int (nI n2)] H (o1 (some (.ref H.size)) (fun H' => QA E n2 (va_cpy f (fun _ => none) 0 0 n) H.size H' ∧ FR (fun _ => False) H H')) := by
  refine Con.of (C := RJ7) rfl (by decide +kernel) (Nat.le_of_ble_eq_true rfl) ?_
  intro p e s m below meth co ls hx hb hr hlk hml hown hts hin hE hH hS hl
  have hl : lv_has ls 2 [(0, .ref arr), (1, .int (nI n2))] := hl
  have hB : eB E ≤ s.heap.size := by rw [hH]; exact hE.2.1
  refine lv_aload_n hx hb dJ7_copyOf_1904c_0 rfl (lv_at hl 0 rfl) ?_
  refine lv_iload_n hx hb dJ7_copyOf_1904c_1 rfl (lv_at hl 1 rfl) ?_
  refine lv_aload_n hx hb dJ7_copyOf_1904c_2 rfl (lv_at hl 0 rfl) ?_
  have hmi := hE.2.2.2.2.2.2.2.2.2.2.2.1
  refine va_getC (C := "[Ljava/lang/Object;") hx hb (by rw [hml]; exact hl.1.symm) hown (hts _ qw2_53) (va_Dc.use hE.2.2.2.2.2.2.2.2.2.2.2.2.1) (hts _ qw4_195) (hts _ qw2_54) (hts _ qnGC) hmi ⟨_, hA 0 _ rfl, rfl, va_nmO (hE.K.2 2 _ rfl).2 rfl⟩ (Nat.le_of_ble_eq_true rfl) (by show _ ≤ 120; simp [Value.category]) dJ7_copyOf_1904c_3 ?_
  refine gS hx hb hml hts hown hB hE hS kwJ7_300 (c_copy3 E arr n n2 ci f C T N H hA hg hn hn2 hc hca hel) (Nat.le_of_ble_eq_true rfl) rfl hl.1 rfl (Nat.le_of_ble_eq_true rfl) (by omega) (by omega) dJ7_copyOf_1904c_6 (fun H1 L1 hG hz1 hE hS => ?_)
  exact cR hx hb hr (Or.inr ⟨_, rfl⟩) (Or.inr ⟨_, rfl⟩) hlk hB hS (by omega) (by omega) (⟨rfl, hG⟩) dJ7_copyOf_1904c_9
end
section
theorem add_get {f : Nat → Option Nat} {ad : Nat → Nat} {c w : Nat} (hf : ∀ i, i < c → f i = some (ad i)) (i : Nat) (hi : i < c + 1) : va_up f c (some w) i = some (va_up ad c w i) := by
  by_cases e : i = c
  · subst e; simp [va_up]
  · simp only [va_up, if_neg e]; exact hf i (by omega)
theorem owx_size {ow : Nat → Nat × Nat} {H H1 : Heap} {x : Nat × Nat} (h : H1.size = H.size) : owx ow H1 x = owx ow H x := by
  unfold owx
  rw [h]
set_option maxRecDepth 100000 in
set_option maxHeartbeats 4000000 in
/-- ArrayList.grow(int) of the empty array -/
theorem c_growA (E : ET) (a mo9 : Nat) (mo : Int32) (H : Heap) (hO : OB E 0 [.int mo, .ref (eF E), .int (nI 0)] a H) (ha : eB E ≤ a) : Con E yJx4a65c_grow_92f84 cJx4a65c_grow_92f84 4 (some (FieldType.array (FieldType.object "java/lang/Object"))) 4 1 10 [.ref a, .int (nI 1)] H (o1 (some (.ref H.size)) (fun H' => OB E 0 [.int mo, .ref H.size, .int (nI 0)] a H' ∧ QA E 10 (fun _ => none) H.size H' ∧ FR (fun q => q = a) H H')) := by
  refine Con.of (C := RJx4a65c) rfl (by decide +kernel) (Nat.le_of_ble_eq_true rfl) ?_
  intro p e s m below meth co ls hx hb hr hlk hml hown hts hin hE hH hS hl
  have hl : lv_has ls 4 [(0, .ref a), (1, .int (nI 1))] := hl
  have hB : eB E ≤ s.heap.size := by rw [hH]; exact hE.2.1
  have hA := hE.2.2.2.1
  have hal := plt hO
  refine lv_aload_n hx hb dJx4a65c_grow_92f84_0 rfl (lv_at hl 0 rfl) ?_
  refine gf hx hb hts hown hE lkJx4a65c_9 hO rfl dJx4a65c_grow_92f84_1 ?_
  refine aLQ hx hb hE hA dJx4a65c_grow_92f84_4 ?_
  refine lv_istore_n (lv' := [(2, .int (nI 0)), (0, .ref a), (1, .int (nI 1))]) hx hb dJx4a65c_grow_92f84_5 rfl hl (by decide) rfl (fun ls hl => ?_)
  refine lv_iload_n hx hb dJx4a65c_grow_92f84_6 rfl (lv_at hl 0 rfl) ?_
  refine lv_if_gt (tgt := 20) hx hb dJx4a65c_grow_92f84_7 (by decide) (fun c1 => ?_) (fun c1 => ?_)
  · exact absurd c1 (by decide)
  refine lv_aload_n hx hb dJx4a65c_grow_92f84_10 rfl (lv_at hl 1 rfl) ?_
  refine gf hx hb hts hown hE lkJx4a65c_9 hO rfl dJx4a65c_grow_92f84_11 ?_
  refine va_gets hx hb (by rw [hH]; exact hE.2.2.2.2.1) hS hown (hts _ qw1_54) (fun _ h => h) dJx4a65c_grow_92f84_14 ?_
  refine lv_acmp_eq (rx := some (eF E)) (ry := some (eF E)) (tgt := 45) hx hb dJx4a65c_grow_92f84_17 (by decide) (fun _ => ?_) (fun c => absurd rfl c)
  refine lv_aload_n hx hb dJx4a65c_grow_92f84_45 rfl (lv_at hl 1 rfl) ?_
  refine lv_bipush (v := 10) hx hb dJx4a65c_grow_92f84_46 (by decide) ?_
  refine lv_iload_n hx hb dJx4a65c_grow_92f84_48 rfl (lv_at hl 2 rfl) ?_
  refine va_mmax hx hb (by rw [hml]; exact hl.1.symm) hown (hts _ qw2_79) (hts _ qw2_44) (hts _ qw1_18) (hts _ qw2_45) (Nat.le_of_ble_eq_true rfl) (by show _ ≤ 160; simp [Value.category]) (Nat.zero_le _) (Nat.zero_le _) dJx4a65c_grow_92f84_49 ?_
  rw [show (if (10 : Int32) < nI 1 then nI 1 else 10) = 10 by decide]
  refine naQ (N' := 10) hx hb hts hown hE hS qw2_80 rfl (by omega) (by omega) (by omega) dJx4a65c_grow_92f84_52 (fun q H1 ea1 hN hz1 hq1 hE hS hg1 => ?_)
  have hF : FR (fun q => q = a) H H1 := FR.rf.new (by omega) hq1
  have hO := pk3 hO hq1
  refine lv_dup_x1 hx hb dJx4a65c_grow_92f84_55 rfl rfl ?_
  refine pf hx hb hts hown hE hS pkJx4a65c_9 rfl hO ha rfl rfl (Nat.le_of_ble_eq_true rfl) dJx4a65c_grow_92f84_56 (fun H2 L2 hO2 hz2 hq2 hE hS => ?_)
  have hO : OB E 0 [.int mo, .ref q, .int (nI 0)] a H2 := hO2
  have hN := pk2 hN hq2 (by omega)
  have hF := hF.put hz2 hq2 (fun _ => rfl)
  exact cR hx hb hr (Or.inr ⟨_, rfl⟩) (Or.inr ⟨_, rfl⟩) hlk hB hS (by omega) (by omega) (⟨by first | rfl | rw [ea1], by first | exact hO | (rw [← ea1]; exact hO), by first | exact hN | (rw [← ea1]; exact hN), hF⟩) dJx4a65c_grow_92f84_59

set_option maxRecDepth 100000 in
set_option maxHeartbeats 4000000 in
/-- ArrayList.grow(int) of a full array -/
theorem c_growB (E : ET) (a arr n ci : Nat) (mo : Int32) (f : Nat → Option Nat) (C : String) (T : u_T) (N : Nat) (H : Heap) (hO : OB E 0 [.int mo, .ref arr, .int (nI n)] a H) (ha : eB E ≤ a) (hA : QA E n f arr H) (hg : eB E ≤ arr) (h2 : 2 ≤ n) (hn4 : n ≤ 40000) (hc : vwCl[ci]? = some (C, T, N)) (hca : (C, xO) ∈ casL) (hel : ∀ i, i < n → ∀ y, f i = some y → ∃ fs, OB E ci fs y H) : Con E yJx4a65c_grow_92f84 cJx4a65c_grow_92f84 4 (some (FieldType.array (FieldType.object "java/lang/Object"))) 4 1 (n + n / 2) [.ref a, .int (nI (n + 1))] H (o1 (some (.ref H.size)) (fun H' => OB E 0 [.int mo, .ref H.size, .int (nI n)] a H' ∧ QA E (n + n / 2) (va_cpy f (fun _ => none) 0 0 n) H.size H' ∧ FR (fun q => q = a) H H')) := by
  refine Con.of (C := RJx4a65c) rfl (by decide +kernel) (Nat.le_of_ble_eq_true rfl) ?_
  intro p e s m below meth co ls hx hb hr hlk hml hown hts hin hE hH hS hl
  have hl : lv_has ls 4 [(0, .ref a), (1, .int (nI (n + 1)))] := hl
  have hB : eB E ≤ s.heap.size := by rw [hH]; exact hE.2.1
  have hal := plt hO
  refine lv_aload_n hx hb dJx4a65c_grow_92f84_0 rfl (lv_at hl 0 rfl) ?_
  refine gf hx hb hts hown hE lkJx4a65c_9 hO rfl dJx4a65c_grow_92f84_1 ?_
  refine aLQ hx hb hE hA dJx4a65c_grow_92f84_4 ?_
  refine lv_istore_n (lv' := [(2, .int (nI n)), (0, .ref a), (1, .int (nI (n + 1)))]) hx hb dJx4a65c_grow_92f84_5 rfl hl (by decide) rfl (fun ls hl => ?_)
  refine lv_iload_n hx hb dJx4a65c_grow_92f84_6 rfl (lv_at hl 0 rfl) ?_
  refine lv_if_gt (tgt := 20) hx hb dJx4a65c_grow_92f84_7 (by decide) (fun c1 => ?_) (fun c1 => ?_)
  rotate_left
  · exact absurd (show nI 0 < nI n from nI_lt (by omega) (by omega)) c1
  refine lv_iload_n hx hb dJx4a65c_grow_92f84_20 rfl (lv_at hl 0 rfl) ?_
  refine lv_iload_n hx hb dJx4a65c_grow_92f84_21 rfl (lv_at hl 2 rfl) ?_
  refine lv_iload_n hx hb dJx4a65c_grow_92f84_22 rfl (lv_at hl 0 rfl) ?_
  refine lv_isub hx hb dJx4a65c_grow_92f84_23 ?_
  refine lv_iload_n hx hb dJx4a65c_grow_92f84_24 rfl (lv_at hl 0 rfl) ?_
  refine lv_iconst (v := 1) hx hb dJx4a65c_grow_92f84_25 (by decide) ?_
  rw [show nI (n + 1) - nI n = (1 : Int32) from (pk_sub (a := n + 1) (b := n) (by omega)).trans (by rw [Nat.add_sub_cancel_left]; rfl)]
  refine lv_ishr hx hb dJx4a65c_grow_92f84_26 ?_
  rw [ga_get rfl h2 hn4]
  refine pS hx hb hml hts hown hE kwJx4a65c_73 (c_newLen E n H h2 hn4) (Nat.le_of_ble_eq_true rfl) rfl hl.1 rfl (Nat.le_of_ble_eq_true rfl) (Nat.zero_le _) (Nat.zero_le _) dJx4a65c_grow_92f84_27 ?_
  refine lv_istore_n (lv' := [(3, .int (nI (n + n / 2))), (2, .int (nI n)), (0, .ref a), (1, .int (nI (n + 1)))]) hx hb dJx4a65c_grow_92f84_30 rfl hl (by decide) rfl (fun ls hl => ?_)
  refine lv_aload_n hx hb dJx4a65c_grow_92f84_31 rfl (lv_at hl 2 rfl) ?_
  refine lv_aload_n hx hb dJx4a65c_grow_92f84_32 rfl (lv_at hl 2 rfl) ?_
  refine gf hx hb hts hown hE lkJx4a65c_9 hO rfl dJx4a65c_grow_92f84_33 ?_
  refine lv_iload_n hx hb dJx4a65c_grow_92f84_36 rfl (lv_at hl 0 rfl) ?_
  refine gS hx hb hml hts hown hB hE hS kwJx4a65c_66 (c_copy2 E arr n (n + n / 2) ci f C T N H hA hg (by omega) (by omega) hc hca hel) (Nat.le_of_ble_eq_true rfl) rfl hl.1 rfl (Nat.le_of_ble_eq_true rfl) (by omega) (by omega) dJx4a65c_grow_92f84_37 (fun H1 L1 hG hz1 hE hS => ?_)
  obtain ⟨q, ea1⟩ : ∃ q, q = H.size := ⟨_, rfl⟩
  rw [← ea1] at hG ⊢
  obtain ⟨hN, hG2⟩ := hG
  have hF : FR (fun q => q = a) H H1 := FR.rf.tr hG2 (fun _ _ h => h.elim)
  have hO := hG2.at hO (fun h => h)
  refine lv_dup_x1 hx hb dJx4a65c_grow_92f84_40 rfl rfl ?_
  refine pf hx hb hts hown hE hS pkJx4a65c_9 rfl hO ha rfl rfl (Nat.le_of_ble_eq_true rfl) dJx4a65c_grow_92f84_41 (fun H2 L2 hO2 hz2 hq2 hE hS => ?_)
  have hO : OB E 0 [.int mo, .ref q, .int (nI n)] a H2 := hO2
  have hN := pk2 hN hq2 (by omega)
  have hF := hF.put hz2 hq2 (fun _ => rfl)
  exact cR hx hb hr (Or.inr ⟨_, rfl⟩) (Or.inr ⟨_, rfl⟩) hlk hB hS (by omega) (by omega) (⟨by first | rfl | rw [ea1], by first | exact hO | (rw [← ea1]; exact hO), by first | exact hN | (rw [← ea1]; exact hN), hF⟩) dJx4a65c_grow_92f84_44

set_option maxRecDepth 100000 in
set_option maxHeartbeats 4000000 in
/-- ArrayList.grow() of the empty array -/
theorem c_grow0A (E : ET) (a : Nat) (mo : Int32) (H : Heap) (hO : OB E 0 [.int mo, .ref (eF E), .int (nI 0)] a H) (ha : eB E ≤ a) : Con E yJx4a65c_grow_d5877 cJx4a65c_grow_d5877 1 (some (FieldType.array (FieldType.object "java/lang/Object"))) 5 1 10 [.ref a] H (o1 (some (.ref H.size)) (fun H' => OB E 0 [.int mo, .ref H.size, .int (nI 0)] a H' ∧ QA E 10 (fun _ => none) H.size H' ∧ FR (fun q => q = a) H H')) := by
  refine Con.of (C := RJx4a65c) rfl (by decide +kernel) (Nat.le_of_ble_eq_true rfl) ?_
  intro p e s m below meth co ls hx hb hr hlk hml hown hts hin hE hH hS hl
  have hl : lv_has ls 1 [(0, .ref a)] := hl
  have hB : eB E ≤ s.heap.size := by rw [hH]; exact hE.2.1
  refine lv_aload_n hx hb dJx4a65c_grow_d5877_0 rfl (lv_at hl 0 rfl) ?_
  refine lv_aload_n hx hb dJx4a65c_grow_d5877_1 rfl (lv_at hl 0 rfl) ?_
  refine gf hx hb hts hown hE lkJx4a65c_48 hO rfl dJx4a65c_grow_d5877_2 ?_
  refine lv_iconst (v := 1) hx hb dJx4a65c_grow_d5877_5 (by decide) ?_
  refine lv_iadd hx hb dJx4a65c_grow_d5877_6 ?_
  rw [show nI 0 + 1 = nI (0 + 1) from nI_1 0]
  refine gV hx hb hml hts hown hB hE hS kwJx4a65c_69 (c_growA E a 0 mo H hO ha) hO rfl (Nat.le_of_ble_eq_true rfl) rfl hl.1 rfl (Nat.le_of_ble_eq_true rfl) (by omega) (by omega) dJx4a65c_grow_d5877_7 (fun H1 L1 hG hz1 hE hS => ?_)
  exact cR hx hb hr (Or.inr ⟨_, rfl⟩) (Or.inr ⟨_, rfl⟩) hlk hB hS (by omega) (by omega) (⟨rfl, hG⟩) dJx4a65c_grow_d5877_10

set_option maxRecDepth 100000 in
set_option maxHeartbeats 4000000 in
/-- ArrayList.grow() of a full array -/
theorem c_grow0B (E : ET) (a arr n ci : Nat) (mo : Int32) (f : Nat → Option Nat) (C : String) (T : u_T) (N : Nat) (H : Heap) (hO : OB E 0 [.int mo, .ref arr, .int (nI n)] a H) (ha : eB E ≤ a) (hA : QA E n f arr H) (hg : eB E ≤ arr) (h2 : 2 ≤ n) (hn4 : n ≤ 40000) (hc : vwCl[ci]? = some (C, T, N)) (hca : (C, xO) ∈ casL) (hel : ∀ i, i < n → ∀ y, f i = some y → ∃ fs, OB E ci fs y H) : Con E yJx4a65c_grow_d5877 cJx4a65c_grow_d5877 1 (some (FieldType.array (FieldType.object "java/lang/Object"))) 5 1 (n + n / 2) [.ref a] H (o1 (some (.ref H.size)) (fun H' => OB E 0 [.int mo, .ref H.size, .int (nI n)] a H' ∧ QA E (n + n / 2) (va_cpy f (fun _ => none) 0 0 n) H.size H' ∧ FR (fun q => q = a) H H')) := by
  refine Con.of (C := RJx4a65c) rfl (by decide +kernel) (Nat.le_of_ble_eq_true rfl) ?_
  intro p e s m below meth co ls hx hb hr hlk hml hown hts hin hE hH hS hl
  have hl : lv_has ls 1 [(0, .ref a)] := hl
  have hB : eB E ≤ s.heap.size := by rw [hH]; exact hE.2.1
  refine lv_aload_n hx hb dJx4a65c_grow_d5877_0 rfl (lv_at hl 0 rfl) ?_
  refine lv_aload_n hx hb dJx4a65c_grow_d5877_1 rfl (lv_at hl 0 rfl) ?_
  refine gf hx hb hts hown hE lkJx4a65c_48 hO rfl dJx4a65c_grow_d5877_2 ?_
  refine lv_iconst (v := 1) hx hb dJx4a65c_grow_d5877_5 (by decide) ?_
  refine lv_iadd hx hb dJx4a65c_grow_d5877_6 ?_
  rw [show nI n + 1 = nI (n + 1) from nI_1 n]
  refine gV hx hb hml hts hown hB hE hS kwJx4a65c_69 (c_growB E a arr n ci mo f C T N H hO ha hA hg h2 hn4 hc hca hel) hO rfl (Nat.le_of_ble_eq_true rfl) rfl hl.1 rfl (Nat.le_of_ble_eq_true rfl) (by omega) (by omega) dJx4a65c_grow_d5877_7 (fun H1 L1 hG hz1 hE hS => ?_)
  exact cR hx hb hr (Or.inr ⟨_, rfl⟩) (Or.inr ⟨_, rfl⟩) hlk hB hS (by omega) (by omega) (⟨rfl, hG⟩) dJx4a65c_grow_d5877_10

set_option maxRecDepth 100000 in
set_option maxHeartbeats 4000000 in
/-- ArrayList.add(E, Object[], int) -/
theorem c_add3 (E : ET) (ow : Nat → Nat × Nat) (L a w c arr n : Nat) (mo : Int32) (f : Nat → Option Nat) (ad : Nat → Nat) (ci : Nat) (fw : List Value) (C : String) (T : u_T) (N : Nat) (H : Heap) (hO : OB E 0 [.int mo, .ref arr, .int (nI c)] a H) (hA : QA E n f arr H) (hcn : c ≤ n) (hn2 : n ≤ 2 * c + 10) (hf : ∀ i, i < c → f i = some (ad i)) (hoa : ow a = (L, 1)) (hga : eB E ≤ a) (har : (arr = eF E ∧ n = 0) ∨ (ow arr = (L, 2) ∧ eB E ≤ arr ∧ 2 ≤ n)) (hcb : c ≤ 10000) (hw : OB E ci fw w H) (hc : vwCl[ci]? = some (C, T, N)) (hca : (C, xO) ∈ casL) (hel : ∀ i, i < c → ∃ fs, OB E ci fs (ad i) H) (hwo : (ow w).2 ≠ 1 ∧ (ow w).2 ≠ 2) : Con E yJx4a65c_add_72be8 cJx4a65c_add_72be8 4 (none : Option FieldType) 6 1 (2 * c + 10) [.ref a, .ref w, .ref arr, .int (nI c)] H (o1 none (fun H' => LRo E (owx ow H (L, 2)) L a (c + 1) (va_up ad c w) H' ∧ FR (fun q => ow q = (L, 1) ∨ ow q = (L, 2)) H H')) := by
  refine Con.of (C := RJx4a65c) rfl (by decide +kernel) (Nat.le_of_ble_eq_true rfl) ?_
  intro p e s m below meth co ls hx hb hr hlk hml hown hts hin hE hH hS hl
  have hl : lv_has ls 4 [(0, .ref a), (1, .ref w), (2, .ref arr), (3, .int (nI c))] := hl
  have hA0 := hA
  have hB : eB E ≤ s.heap.size := by rw [hH]; exact hE.2.1
  have hwa : w ≠ a := fun e => hwo.1 (by rw [e, hoa])
  have hal := plt hO
  have hwl := plt hw
  refine lv_iload_n hx hb dJx4a65c_add_72be8_0 rfl (lv_at hl 3 rfl) ?_
  refine lv_aload_n hx hb dJx4a65c_add_72be8_1 rfl (lv_at hl 2 rfl) ?_
  refine aLQ hx hb hE hA dJx4a65c_add_72be8_2 ?_
  refine lv_icmp_ne (tgt := 11) hx hb dJx4a65c_add_72be8_3 (by decide) (fun c1 => ?_) (fun c1 => ?_)
  · have hlt : c < n := by
      rcases Nat.lt_or_ge c n with q | q
      · exact q
      · exact absurd (by rw [Nat.le_antisymm hcn q]) c1
    have har2 : ow arr = (L, 2) ∧ eB E ≤ arr ∧ 2 ≤ n := har.resolve_left (fun q => by omega)
    have hgr := har2.2.1
    have hroom := hlt
    have hna : a ≠ arr := fun e => by rw [e, har2.1] at hoa; cases hoa
    have hnw : w ≠ arr := fun e => hwo.2 (by rw [e, har2.1])
    have hma : arr < H.size → ow arr = (L, 1) ∨ ow arr = (L, 2) := fun _ => Or.inr har2.1
    have hF : FR (fun q => ow q = (L, 1) ∨ ow q = (L, 2)) H H := FR.rf
    refine lv_aload_n hx hb dJx4a65c_add_72be8_11 rfl (lv_at hl 2 rfl) ?_
    refine lv_iload_n hx hb dJx4a65c_add_72be8_12 rfl (lv_at hl 3 rfl) ?_
    refine lv_aload_n hx hb dJx4a65c_add_72be8_13 rfl (lv_at hl 1 rfl) ?_
    refine asQ hx hb hE hS hA hgr  hw hc hca rfl hroom (by omega) dJx4a65c_add_72be8_14 (fun H1 L1 hO1 hz1 hq1 hE hS => ?_)
    have hA : QA E n (va_up (f) c (some w)) arr H1 := hO1
    have hO := pk2 hO hq1 hna
    have hw := pk2 hw hq1 hnw
    have hF := hF.put hz1 hq1 hma
    refine lv_aload_n hx hb dJx4a65c_add_72be8_15 rfl (lv_at hl 0 rfl) ?_
    refine lv_iload_n hx hb dJx4a65c_add_72be8_16 rfl (lv_at hl 3 rfl) ?_
    refine lv_iconst (v := 1) hx hb dJx4a65c_add_72be8_17 (by decide) ?_
    refine lv_iadd hx hb dJx4a65c_add_72be8_18 ?_
    rw [show nI c + 1 = nI (c + 1) from nI_1 c]
    refine pf hx hb hts hown hE hS pkJx4a65c_48 rfl hO hga rfl rfl (Nat.le_of_ble_eq_true rfl) dJx4a65c_add_72be8_19 (fun H2 L2 hO2 hz2 hq2 hE hS => ?_)
    have hO : OB E 0 [.int mo, .ref arr, .int (nI (c + 1))] a H2 := hO2
    have hA := pk2 hA hq2 (fun e => hna e.symm)
    have hw := pk2 hw hq2 hwa
    have hF := hF.put hz2 hq2 (fun _ => Or.inl hoa)
    have har9 := plt hA0
    refine cU hx hb hr hlk hB hS (by omega) (by omega) ⟨rfl, ⟨mo, arr, n, _, hO, hA, hlt, by omega, fun i hi => add_get hf i hi, by rw [owx_old hal]; exact hoa, hga, Or.inr ⟨by rw [owx_old har9]; exact har2.1, hgr, har2.2.2⟩⟩, hF⟩ dJx4a65c_add_72be8_22
  · have hcn2 : c = n := (nI_eq (by omega) (by omega)).mp c1
    subst hcn2
    rcases har with ⟨ea, e0⟩ | har2
    · subst ea e0
      refine lv_aload_n hx hb dJx4a65c_add_72be8_6 rfl (lv_at hl 0 rfl) ?_
      refine gV hx hb hml hts hown hB hE hS kwJx4a65c_129 (c_grow0A E a mo H hO hga) hO rfl (Nat.le_of_ble_eq_true rfl) rfl hl.1 rfl (Nat.le_of_ble_eq_true rfl) (by omega) (by omega) dJx4a65c_add_72be8_7 (fun H1 L1 hG hz1 hE hS => ?_)
      obtain ⟨q, ea1⟩ : ∃ q, q = H.size := ⟨_, rfl⟩
      rw [← ea1] at hG ⊢
      obtain ⟨hO, hA, hG2⟩ := hG
      have hF : FR (fun q => ow q = (L, 1) ∨ ow q = (L, 2)) H H1 := FR.rf.tr hG2 (fun z _ h => by rw [h]; exact Or.inl hoa)
      have hw := hG2.at hw hwa
      have hgr : eB E ≤ q := by have := hH ▸ hB; omega
      have hna : a ≠ q := by omega
      have hnw : w ≠ q := by omega
      have hma : q < H.size → ow q = (L, 1) ∨ ow q = (L, 2) := fun h => by omega
      have hroom : 0 < 10 := by decide
      refine lv_astore_n (lv' := [(2, .ref q), (0, .ref a), (1, .ref w), (3, .int (nI 0))]) hx hb dJx4a65c_add_72be8_10 rfl hl (by decide) rfl (fun ls hl => ?_)
      refine lv_aload_n hx hb dJx4a65c_add_72be8_11 rfl (lv_at hl 0 rfl) ?_
      refine lv_iload_n hx hb dJx4a65c_add_72be8_12 rfl (lv_at hl 3 rfl) ?_
      refine lv_aload_n hx hb dJx4a65c_add_72be8_13 rfl (lv_at hl 2 rfl) ?_
      refine asQ hx hb hE hS hA hgr  hw hc hca rfl hroom (by omega) dJx4a65c_add_72be8_14 (fun H2 L2 hO2 hz2 hq2 hE hS => ?_)
      have hA : QA E 10 (va_up (fun _ => none) 0 (some w)) q H2 := hO2
      have hO := pk2 hO hq2 hna
      have hw := pk2 hw hq2 hnw
      have hF := hF.put hz2 hq2 hma
      refine lv_aload_n hx hb dJx4a65c_add_72be8_15 rfl (lv_at hl 1 rfl) ?_
      refine lv_iload_n hx hb dJx4a65c_add_72be8_16 rfl (lv_at hl 3 rfl) ?_
      refine lv_iconst (v := 1) hx hb dJx4a65c_add_72be8_17 (by decide) ?_
      refine lv_iadd hx hb dJx4a65c_add_72be8_18 ?_
      rw [show nI 0 + 1 = nI (0 + 1) from nI_1 0]
      refine pf hx hb hts hown hE hS pkJx4a65c_48 rfl hO hga rfl rfl (Nat.le_of_ble_eq_true rfl) dJx4a65c_add_72be8_19 (fun H3 L3 hO3 hz3 hq3 hE hS => ?_)
      have hO : OB E 0 [.int mo, .ref q, .int (nI (0 + 1))] a H3 := hO3
      have hA := pk2 hA hq3 (fun e => hna e.symm)
      have hw := pk2 hw hq3 hwa
      have hF := hF.put hz3 hq3 (fun _ => Or.inl hoa)
      exact cU hx hb hr hlk hB hS (by omega) (by omega) ⟨rfl, ⟨mo, q, 10, _, hO, hA, by omega, by omega, fun i hi => add_get (c := 0) (fun i hi => absurd hi (Nat.not_lt_zero i)) i hi, by rw [owx_old hal]; exact hoa, hga, Or.inr ⟨owx_new (by omega), hgr, by decide⟩⟩, hF⟩ dJx4a65c_add_72be8_22
    · refine lv_aload_n hx hb dJx4a65c_add_72be8_6 rfl (lv_at hl 0 rfl) ?_
      refine gV hx hb hml hts hown hB hE hS kwJx4a65c_129 (c_grow0B E a arr c ci mo f C T N H hO hga hA har2.2.1 har2.2.2 (by omega) hc hca (fun i hi y hy => by rw [hf i hi] at hy; cases hy; exact hel i hi)) hO rfl (Nat.le_of_ble_eq_true rfl) rfl hl.1 rfl (Nat.le_of_ble_eq_true rfl) (by omega) (by omega) dJx4a65c_add_72be8_7 (fun H1 L1 hG hz1 hE hS => ?_)
      obtain ⟨q, ea1⟩ : ∃ q, q = H.size := ⟨_, rfl⟩
      rw [← ea1] at hG ⊢
      obtain ⟨hO, hA, hG2⟩ := hG
      have hF : FR (fun q => ow q = (L, 1) ∨ ow q = (L, 2)) H H1 := FR.rf.tr hG2 (fun z _ h => by rw [h]; exact Or.inl hoa)
      have hw := hG2.at hw hwa
      have hgr : eB E ≤ q := by have := hH ▸ hB; omega
      have hna : a ≠ q := by omega
      have hnw : w ≠ q := by omega
      have hma : q < H.size → ow q = (L, 1) ∨ ow q = (L, 2) := fun h => by omega
      have hroom : c < c + c / 2 := by have := har2.2.2; omega
      refine lv_astore_n (lv' := [(2, .ref q), (0, .ref a), (1, .ref w), (3, .int (nI c))]) hx hb dJx4a65c_add_72be8_10 rfl hl (by decide) rfl (fun ls hl => ?_)
      refine lv_aload_n hx hb dJx4a65c_add_72be8_11 rfl (lv_at hl 0 rfl) ?_
      refine lv_iload_n hx hb dJx4a65c_add_72be8_12 rfl (lv_at hl 3 rfl) ?_
      refine lv_aload_n hx hb dJx4a65c_add_72be8_13 rfl (lv_at hl 2 rfl) ?_
      refine asQ hx hb hE hS hA hgr  hw hc hca rfl hroom (by omega) dJx4a65c_add_72be8_14 (fun H2 L2 hO2 hz2 hq2 hE hS => ?_)
      have hA : QA E (c + c / 2) (va_up (va_cpy f (fun _ => none) 0 0 c) c (some w)) q H2 := hO2
      have hO := pk2 hO hq2 hna
      have hw := pk2 hw hq2 hnw
      have hF := hF.put hz2 hq2 hma
      refine lv_aload_n hx hb dJx4a65c_add_72be8_15 rfl (lv_at hl 1 rfl) ?_
      refine lv_iload_n hx hb dJx4a65c_add_72be8_16 rfl (lv_at hl 3 rfl) ?_
      refine lv_iconst (v := 1) hx hb dJx4a65c_add_72be8_17 (by decide) ?_
      refine lv_iadd hx hb dJx4a65c_add_72be8_18 ?_
      rw [show nI c + 1 = nI (c + 1) from nI_1 c]
      refine pf hx hb hts hown hE hS pkJx4a65c_48 rfl hO hga rfl rfl (Nat.le_of_ble_eq_true rfl) dJx4a65c_add_72be8_19 (fun H3 L3 hO3 hz3 hq3 hE hS => ?_)
      have hO : OB E 0 [.int mo, .ref q, .int (nI (c + 1))] a H3 := hO3
      have hA := pk2 hA hq3 (fun e => hna e.symm)
      have hw := pk2 hw hq3 hwa
      have hF := hF.put hz3 hq3 (fun _ => Or.inl hoa)
      exact cU hx hb hr hlk hB hS (by omega) (by omega) ⟨rfl, ⟨mo, q, c + c / 2, _, hO, hA, by omega, by omega, fun i hi => add_get (fun i hi => (pk_cpy_in (Nat.zero_le _) (by omega)).trans (by rw [Nat.zero_add, Nat.sub_zero]; exact hf i hi)) i hi, by rw [owx_old hal]; exact hoa, hga, Or.inr ⟨owx_new (by omega), hgr, by have := har2.2.2; omega⟩⟩, hF⟩ dJx4a65c_add_72be8_22

set_option maxRecDepth 100000 in
set_option maxHeartbeats 4000000 in
/-- ArrayList.add -/
theorem c_add (E : ET) (ow : Nat → Nat × Nat) (L a w c : Nat) (ad : Nat → Nat) (ci : Nat) (fw : List Value) (C : String) (T : u_T) (N : Nat) (H : Heap) (h : LRo E ow L a c ad H) (hcb : c ≤ 10000) (hw : OB E ci fw w H) (hc : vwCl[ci]? = some (C, T, N)) (hca : (C, xO) ∈ casL) (hel : ∀ i, i < c → ∃ fs, OB E ci fs (ad i) H) (hwo : (ow w).2 ≠ 1 ∧ (ow w).2 ≠ 2) (hela : ∀ i, i < c → ad i ≠ a) : Con E yJx4a65c_add_9ea2d cJx4a65c_add_9ea2d 2 (some FieldType.boolean) 7 1 (2 * c + 10) [.ref a, .ref w] H (o1 (some (.int 1)) (fun H' => LRo E (owx ow H (L, 2)) L a (c + 1) (va_up ad c w) H' ∧ FR (fun q => ow q = (L, 1) ∨ ow q = (L, 2)) H H')) := by
  refine Con.of (C := RJx4a65c) rfl (by decide +kernel) (Nat.le_of_ble_eq_true rfl) ?_
  intro p e s m below meth co ls hx hb hr hlk hml hown hts hin hE hH hS hl
  have hl : lv_has ls 2 [(0, .ref a), (1, .ref w)] := hl
  have hB : eB E ≤ s.heap.size := by rw [hH]; exact hE.2.1
  obtain ⟨mo, arr, n, f, hO, hA, hcn, hn2, hf, hoa, hga, har⟩ := h
  have hwa : w ≠ a := fun e => hwo.1 (by rw [e, hoa])
  have hra : arr ≠ a := fun e => har.elim (fun q => by have := hE.2.2.1; omega) (fun q => by rw [e, hoa] at q; cases q.1)
  refine lv_aload_n hx hb dJx4a65c_add_9ea2d_0 rfl (lv_at hl 0 rfl) ?_
  refine lv_dup hx hb dJx4a65c_add_9ea2d_1 rfl ?_
  refine gf hx hb hts hown hE lkJx4a65c_63 hO rfl dJx4a65c_add_9ea2d_2 ?_
  refine lv_iconst (v := 1) hx hb dJx4a65c_add_9ea2d_5 (by decide) ?_
  refine lv_iadd hx hb dJx4a65c_add_9ea2d_6 ?_
  have hF : FR (fun q => ow q = (L, 1) ∨ ow q = (L, 2)) H H := FR.rf
  refine pf hx hb hts hown hE hS pkJx4a65c_63 rfl hO hga rfl rfl (Nat.le_of_ble_eq_true rfl) dJx4a65c_add_9ea2d_7 (fun H1 L1 hO1 hz1 hq1 hE hS => ?_)
  have hO : OB E 0 [.int (mo + 1), .ref arr, .int (nI c)] a H1 := hO1
  have hA := pk2 hA hq1 hra
  have hw := pk2 hw hq1 hwa
  have hF := hF.put hz1 hq1 (fun _ => Or.inl hoa)
  refine lv_aload_n hx hb dJx4a65c_add_9ea2d_10 rfl (lv_at hl 0 rfl) ?_
  refine lv_aload_n hx hb dJx4a65c_add_9ea2d_11 rfl (lv_at hl 1 rfl) ?_
  refine lv_aload_n hx hb dJx4a65c_add_9ea2d_12 rfl (lv_at hl 0 rfl) ?_
  refine gf hx hb hts hown hE lkJx4a65c_9 hO rfl dJx4a65c_add_9ea2d_13 ?_
  refine lv_aload_n hx hb dJx4a65c_add_9ea2d_16 rfl (lv_at hl 0 rfl) ?_
  refine gf hx hb hts hown hE lkJx4a65c_48 hO rfl dJx4a65c_add_9ea2d_17 ?_
  refine gVU hx hb hml hts hown hB hE hS kwJx4a65c_131 (c_add3 E ow L a w c arr n _ f ad ci fw C T N H1 hO hA hcn hn2 hf hoa hga har hcb hw hc hca (fun i hi => ?_) hwo) hO rfl (Nat.le_of_ble_eq_true rfl) rfl hl.1 rfl (Nat.le_of_ble_eq_true rfl) (by omega) (by omega) dJx4a65c_add_9ea2d_20 (fun H2 L2 hG hz2 hE hS => ?_)
  · obtain ⟨fs, ho⟩ := hel i hi
    by_cases q : ad i = a
    · exact absurd q (hela i hi)
    · exact ⟨fs, pk2 ho hq1 q⟩
  obtain ⟨hG1, hG2⟩ := hG
  refine lv_iconst (v := 1) hx hb dJx4a65c_add_9ea2d_23 (by decide) ?_
  exact cZ hx hb hr hlk hB hS (by omega) (by omega) (Or.inr rfl) ⟨rfl, by rw [← owx_size hz1]; exact hG1, hF.tr hG2 (fun _ _ h => h)⟩ dJx4a65c_add_9ea2d_24
end
section
set_option maxRecDepth 100000 in
set_option maxHeartbeats 4000000 in
/-- AbstractCollection() -/
theorem c_aci (E : ET) (a : Nat) (H : Heap) : Con E yJxa1e45_init_da8c8 cJxa1e45_init_da8c8 1 (none : Option FieldType) 1 0 0 [.ref a] H (o1 none (fun H' => H' = H)) := by
  refine Con.of (C := RJxa1e45) rfl (by decide +kernel) (Nat.le_of_ble_eq_true rfl) ?_
  intro p e s m below meth co ls hx hb hr hlk hml hown hts hin hE hH hS hl
  have hl : lv_has ls 1 [(0, .ref a)] := hl
  have hB : eB E ≤ s.heap.size := by rw [hH]; exact hE.2.1
  refine lv_aload_n hx hb dJxa1e45_init_da8c8_0 rfl (lv_at hl 0 rfl) ?_
  refine oI hx hb hml hts hown qw1_53 qw1_28 qw1_29 (Nat.le_of_ble_eq_true rfl) hl.1 (Nat.le_of_ble_eq_true rfl) dJxa1e45_init_da8c8_1 ?_
  exact cU hx hb hr hlk hB hS (by omega) (by omega) (⟨rfl, rfl⟩) dJxa1e45_init_da8c8_4

set_option maxRecDepth 100000 in
set_option maxHeartbeats 4000000 in
/-- AbstractList() -/
theorem c_ali (E : ET) (a : Nat) (v1 v2 : Value) (mo : Int32) (H : Heap) (hO : OB E 0 [.int mo, v1, v2] a H) (hg : eB E ≤ a) : Con E yJxc12de_init_da8c8 cJxc12de_init_da8c8 1 (none : Option FieldType) 2 0 0 [.ref a] H (o1 none (fun H' => OB E 0 [.int 0, v1, v2] a H' ∧ FR (fun q => q = a) H H' ∧ H'.size = H.size)) := by
  refine Con.of (C := RJxc12de) rfl (by decide +kernel) (Nat.le_of_ble_eq_true rfl) ?_
  intro p e s m below meth co ls hx hb hr hlk hml hown hts hin hE hH hS hl
  have hl : lv_has ls 1 [(0, .ref a)] := hl
  have hB : eB E ≤ s.heap.size := by rw [hH]; exact hE.2.1
  refine lv_aload_n hx hb dJxc12de_init_da8c8_0 rfl (lv_at hl 0 rfl) ?_
  refine gI hx hb hml hts hown hB hE hS kwJxc12de_1 (c_aci E a H) (Nat.le_of_ble_eq_true rfl) rfl hl.1 rfl (Nat.le_of_ble_eq_true rfl) (by omega) (by omega) dJxc12de_init_da8c8_1 (fun H1 L1 hG hz1 hE hS => ?_)
  have hG := hG.symm
  subst hG
  refine lv_aload_n hx hb dJxc12de_init_da8c8_4 rfl (lv_at hl 0 rfl) ?_
  refine lv_iconst (v := 0) hx hb dJxc12de_init_da8c8_5 (by decide) ?_
  have hF : FR (fun q => q = a) H H := FR.rf
  refine pf hx hb hts hown hE hS pkJxc12de_7 rfl hO hg rfl rfl (Nat.le_of_ble_eq_true rfl) dJxc12de_init_da8c8_6 (fun H2 L2 hO2 hz2 hq2 hE hS => ?_)
  have hO : OB E 0 [.int 0, v1, v2] a H2 := hO2
  have hF := hF.put hz2 hq2 (fun _ => rfl)
  exact cU hx hb hr hlk hB hS (by omega) (by omega) (⟨rfl, hO, hF, by omega⟩) dJxc12de_init_da8c8_9

set_option maxRecDepth 100000 in
set_option maxHeartbeats 4000000 in
/-- ArrayList() -/
theorem c_lini (E : ET) (a : Nat) (v1 : Value) (mo : Int32) (H : Heap) (hO : OB E 0 [.int mo, v1, .int 0] a H) (hg : eB E ≤ a) : Con E yJx4a65c_init_da8c8 cJx4a65c_init_da8c8 1 (none : Option FieldType) 3 0 0 [.ref a] H (o1 none (fun H' => OB E 0 [.int 0, .ref (eF E), .int (nI 0)] a H' ∧ FR (fun q => q = a) H H' ∧ H'.size = H.size)) := by
  refine Con.of (C := RJx4a65c) rfl (by decide +kernel) (Nat.le_of_ble_eq_true rfl) ?_
  intro p e s m below meth co ls hx hb hr hlk hml hown hts hin hE hH hS hl
  have hl : lv_has ls 1 [(0, .ref a)] := hl
  have hE0 := hE.2.2.2.2.1
  have hB : eB E ≤ s.heap.size := by rw [hH]; exact hE.2.1
  refine lv_aload_n hx hb dJx4a65c_init_da8c8_0 rfl (lv_at hl 0 rfl) ?_
  refine gI hx hb hml hts hown hB hE hS kwJx4a65c_1 (c_ali E a v1 (.int 0) mo H hO hg) (Nat.le_of_ble_eq_true rfl) rfl hl.1 rfl (Nat.le_of_ble_eq_true rfl) (by omega) (by omega) dJx4a65c_init_da8c8_1 (fun H1 L1 hG hz1 hE hS => ?_)
  obtain ⟨hO, hF, hz9⟩ := hG
  refine lv_aload_n hx hb dJx4a65c_init_da8c8_4 rfl (lv_at hl 0 rfl) ?_
  refine va_gets hx hb (by rw [hH]; exact hE0) hS hown (hts _ qw1_54) (fun _ h => h) dJx4a65c_init_da8c8_5 ?_
  refine pf hx hb hts hown hE hS pkJx4a65c_9 rfl hO hg rfl rfl (Nat.le_of_ble_eq_true rfl) dJx4a65c_init_da8c8_8 (fun H2 L2 hO2 hz2 hq2 hE hS => ?_)
  have hO : OB E 0 [.int 0, .ref (eF E), .int 0] a H2 := hO2
  have hF := hF.put hz2 hq2 (fun _ => rfl)
  exact cU hx hb hr hlk hB hS (by omega) (by omega) (⟨rfl, hO, hF, by omega⟩) dJx4a65c_init_da8c8_11

set_option maxRecDepth 100000 in
set_option maxHeartbeats 4000000 in
/-- Entry() -/
theorem c_eini (E : ET) (a : Nat) (d v d0 v0 : Int32) (H : Heap) (hO : OB E 3 [.int d0, .int v0] a H) (hg : eB E ≤ a) : Con E yX2_init cX2_init 3 (none : Option FieldType) 1 0 0 [.ref a, .int d, .int v] H (o1 none (fun H' => OB E 3 [.int d, .int v] a H' ∧ FR (fun q => q = a) H H' ∧ H'.size = H.size)) := by
  refine Con.of (C := RX2) rfl (by decide +kernel) (Nat.le_of_ble_eq_true rfl) ?_
  intro p e s m below meth co ls hx hb hr hlk hml hown hts hin hE hH hS hl
  have hl : lv_has ls 3 [(0, .ref a), (1, .int d), (2, .int v)] := hl
  have hB : eB E ≤ s.heap.size := by rw [hH]; exact hE.2.1
  refine lv_aload_n hx hb dX2_init_0 rfl (lv_at hl 0 rfl) ?_
  refine oI hx hb hml hts hown qw2_14 qw1_28 qw1_29 (Nat.le_of_ble_eq_true rfl) hl.1 (Nat.le_of_ble_eq_true rfl) dX2_init_1 ?_
  refine lv_aload_n hx hb dX2_init_4 rfl (lv_at hl 0 rfl) ?_
  refine lv_iload_n hx hb dX2_init_5 rfl (lv_at hl 1 rfl) ?_
  have hF : FR (fun q => q = a) H H := FR.rf
  refine pfF hx hb hts hown hin hE hS pkX2_7 rfl rfl hO hg rfl rfl (Nat.le_of_ble_eq_true rfl) dX2_init_6 (fun H1 L1 hO1 hz1 hq1 hE hS => ?_)
  have hO : OB E 3 [.int d, .int v0] a H1 := hO1
  have hF := hF.put hz1 hq1 (fun _ => rfl)
  refine lv_aload_n hx hb dX2_init_9 rfl (lv_at hl 0 rfl) ?_
  refine lv_iload_n hx hb dX2_init_10 rfl (lv_at hl 2 rfl) ?_
  refine pf hx hb hts hown hE hS pkX2_13 rfl hO hg rfl rfl (Nat.le_of_ble_eq_true rfl) dX2_init_11 (fun H2 L2 hO2 hz2 hq2 hE hS => ?_)
  have hO : OB E 3 [.int d, .int v] a H2 := hO2
  have hF := hF.put hz2 hq2 (fun _ => rfl)
  exact cU hx hb hr hlk hB hS (by omega) (by omega) (⟨rfl, hO, hF, by omega⟩) dX2_init_14

set_option maxRecDepth 100000 in
set_option maxHeartbeats 4000000 in
/-- Diary() -/
theorem c_dini (E : ET) (a : Nat) (v1 : Value) (H : Heap) (hO : OB E 2 [v1] a H) (hg : eB E ≤ a) : Con E yX1_init cX1_init 1 (none : Option FieldType) 4 1 3 [.ref a] H (o1 none (fun H' => OB E 2 [.ref H.size] a H' ∧ OB E 0 [.int 0, .ref (eF E), .int (nI 0)] H.size H' ∧ FR (fun q => q = a) H H' ∧ H'.size = H.size + 1)) := by
  refine Con.of (C := RX1) rfl (by decide +kernel) (Nat.le_of_ble_eq_true rfl) ?_
  intro p e s m below meth co ls hx hb hr hlk hml hown hts hin hE hH hS hl
  have hl : lv_has ls 1 [(0, .ref a)] := hl
  have hB : eB E ≤ s.heap.size := by rw [hH]; exact hE.2.1
  have hal := plt hO
  refine lv_aload_n hx hb dX1_init_0 rfl (lv_at hl 0 rfl) ?_
  refine oI hx hb hml hts hown qw1_41 qw1_28 qw1_29 (Nat.le_of_ble_eq_true rfl) hl.1 (Nat.le_of_ble_eq_true rfl) dX1_init_1 ?_
  refine lv_aload_n hx hb dX1_init_4 rfl (lv_at hl 0 rfl) ?_
  have hF : FR (fun q => q = a) H H := FR.rf
  refine nw (fs := [.int 0, .null, .int 0]) hx hb hts hown hE hS nkX1_9 (fun j hj => by rcases (show j = 0 ∨ j = 1 ∨ j = 2 by omega) with rfl | rfl | rfl <;> rfl) (by omega) (by omega) dX1_init_5 (fun q H1 ea1 hN hz1 hq1 hE hS hg1 => ?_)
  have hO := pk3 hO hq1
  have hF := hF.new (by omega) hq1
  refine lv_dup hx hb dX1_init_8 rfl ?_
  refine gI hx hb hml hts hown hB hE hS kwX1_11 (c_lini E q .null 0 H1 hN hg1) (Nat.le_of_ble_eq_true rfl) rfl hl.1 rfl (Nat.le_of_ble_eq_true rfl) (by omega) (by omega) dX1_init_9 (fun H2 L2 hG hz2 hE hS => ?_)
  obtain ⟨hN, hG2, hz9⟩ := hG
  have hO := hG2.at hO (by omega)
  have hF := hF.tr hG2 (fun z hz h => by omega)
  refine pfF hx hb hts hown hin hE hS pkX1_12 rfl rfl hO hg rfl rfl (Nat.le_of_ble_eq_true rfl) dX1_init_12 (fun H3 L3 hO3 hz3 hq3 hE hS => ?_)
  have hO : OB E 2 [.ref q] a H3 := hO3
  have hN := pk2 hN hq3 (by omega)
  have hF := hF.put hz3 hq3 (fun _ => rfl)
  exact cU hx hb hr hlk hB hS (by omega) (by omega) (⟨rfl, by rw [← ea1]; exact hO, by rw [← ea1]; exact hN, hF, by omega⟩) dX1_init_15
end
