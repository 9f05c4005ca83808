section
-- ===== PART A: goes FIRST, ahead of the names: the tables' words, and 'selects' of the private methods out of them =====
/-- a private method of a class that the tables say can be made, by its rows of tables_1 -/
def lw_okq (q : MethodName × Nat) : Prop := (q.1.cls ≠ "java/lang/invoke/MethodHandle" ∧ q.1.cls ≠ "java/lang/invoke/VarHandle") ∧ Cond.instantiable q.1.cls q.2 ∈ tables_1 ∧ Cond.privateMethod q.1 ∈ tables_1 ∧ Cond.instanceMethod q.1 ∈ tables_1
theorem lw_p0 : lw_okq (⟨"java/lang/Throwable", "fillInStackTrace", "(I)Ljava/lang/Throwable;"⟩, 6) := ⟨⟨by decide +kernel, by decide +kernel⟩, List.mem_of_getElem? (i := 135) (by decide +kernel), List.mem_of_getElem? (i := 133) (by decide +kernel), List.mem_of_getElem? (i := 134) (by decide +kernel)⟩
theorem lw_p1 : lw_okq (⟨"Resetline$Diary", "entryOf", "(I)LResetline$Entry;"⟩, 1) := ⟨⟨by decide +kernel, by decide +kernel⟩, List.mem_of_getElem? (i := 36) (by decide +kernel), List.mem_of_getElem? (i := 200) (by decide +kernel), List.mem_of_getElem? (i := 201) (by decide +kernel)⟩
theorem lw_p2 : lw_okq (⟨"java/util/ArrayList", "add", "(Ljava/lang/Object;[Ljava/lang/Object;I)V"⟩, 3) := ⟨⟨by decide +kernel, by decide +kernel⟩, List.mem_of_getElem? (i := 42) (by decide +kernel), List.mem_of_getElem? (i := 257) (by decide +kernel), List.mem_of_getElem? (i := 258) (by decide +kernel)⟩
theorem lw_p3 : lw_okq (⟨"java/util/ArrayList", "grow", "()[Ljava/lang/Object;"⟩, 3) := ⟨⟨by decide +kernel, by decide +kernel⟩, List.mem_of_getElem? (i := 42) (by decide +kernel), List.mem_of_getElem? (i := 261) (by decide +kernel), List.mem_of_getElem? (i := 262) (by decide +kernel)⟩
theorem lw_p4 : lw_okq (⟨"java/util/ArrayList", "grow", "(I)[Ljava/lang/Object;"⟩, 3) := ⟨⟨by decide +kernel, by decide +kernel⟩, List.mem_of_getElem? (i := 42) (by decide +kernel), List.mem_of_getElem? (i := 265) (by decide +kernel), List.mem_of_getElem? (i := 266) (by decide +kernel)⟩
theorem lw_p5 : lw_okq (⟨"Resetline", "rollAllTrades", "()V"⟩, 3) := ⟨⟨by decide +kernel, by decide +kernel⟩, List.mem_of_getElem? (i := 22) (by decide +kernel), List.mem_of_getElem? (i := 309) (by decide +kernel), List.mem_of_getElem? (i := 310) (by decide +kernel)⟩
theorem lw_p6 : lw_okq (⟨"Resetline", "swapAt", "(I)LResetline$Swap;"⟩, 3) := ⟨⟨by decide +kernel, by decide +kernel⟩, List.mem_of_getElem? (i := 22) (by decide +kernel), List.mem_of_getElem? (i := 417) (by decide +kernel), List.mem_of_getElem? (i := 418) (by decide +kernel)⟩
theorem lw_p7 : lw_okq (⟨"Resetline", "swapWithPeriod", "(II)LResetline$Swap;"⟩, 3) := ⟨⟨by decide +kernel, by decide +kernel⟩, List.mem_of_getElem? (i := 22) (by decide +kernel), List.mem_of_getElem? (i := 435) (by decide +kernel), List.mem_of_getElem? (i := 436) (by decide +kernel)⟩
theorem lw_p8 : lw_okq (⟨"Resetline", "cashOnDay", "(II)J"⟩, 3) := ⟨⟨by decide +kernel, by decide +kernel⟩, List.mem_of_getElem? (i := 22) (by decide +kernel), List.mem_of_getElem? (i := 475) (by decide +kernel), List.mem_of_getElem? (i := 476) (by decide +kernel)⟩
theorem lw_p9 : lw_okq (⟨"Resetline$Swap", "rateOf", "(ILResetline$Diary;)J"⟩, 13) := ⟨⟨by decide +kernel, by decide +kernel⟩, List.mem_of_getElem? (i := 360) (by decide +kernel), List.mem_of_getElem? (i := 496) (by decide +kernel), List.mem_of_getElem? (i := 497) (by decide +kernel)⟩
theorem lw_p10 : lw_okq (⟨"Resetline$Swap", "daysOf", "(I)J"⟩, 13) := ⟨⟨by decide +kernel, by decide +kernel⟩, List.mem_of_getElem? (i := 360) (by decide +kernel), List.mem_of_getElem? (i := 500) (by decide +kernel), List.mem_of_getElem? (i := 501) (by decide +kernel)⟩
def lw_privs_1 : List (MethodName × Nat) := [(⟨"java/lang/Throwable", "fillInStackTrace", "(I)Ljava/lang/Throwable;"⟩, 6), (⟨"Resetline$Diary", "entryOf", "(I)LResetline$Entry;"⟩, 1), (⟨"java/util/ArrayList", "add", "(Ljava/lang/Object;[Ljava/lang/Object;I)V"⟩, 3), (⟨"java/util/ArrayList", "grow", "()[Ljava/lang/Object;"⟩, 3), (⟨"java/util/ArrayList", "grow", "(I)[Ljava/lang/Object;"⟩, 3), (⟨"Resetline", "rollAllTrades", "()V"⟩, 3), (⟨"Resetline", "swapAt", "(I)LResetline$Swap;"⟩, 3), (⟨"Resetline", "swapWithPeriod", "(II)LResetline$Swap;"⟩, 3), (⟨"Resetline", "cashOnDay", "(II)J"⟩, 3), (⟨"Resetline$Swap", "rateOf", "(ILResetline$Diary;)J"⟩, 13), (⟨"Resetline$Swap", "daysOf", "(I)J"⟩, 13)]
theorem lw_r1 : ∀ q ∈ lw_privs_1, lw_okq q := List.forall_mem_cons.mpr ⟨lw_p0, List.forall_mem_cons.mpr ⟨lw_p1, List.forall_mem_cons.mpr ⟨lw_p2, List.forall_mem_cons.mpr ⟨lw_p3, List.forall_mem_cons.mpr ⟨lw_p4, List.forall_mem_cons.mpr ⟨lw_p5, List.forall_mem_cons.mpr ⟨lw_p6, List.forall_mem_cons.mpr ⟨lw_p7, List.forall_mem_cons.mpr ⟨lw_p8, List.forall_mem_cons.mpr ⟨lw_p9, List.forall_mem_cons.mpr ⟨lw_p10, fun _ h => absurd h List.not_mem_nil⟩⟩⟩⟩⟩⟩⟩⟩⟩⟩⟩
def lw_privs : List (MethodName × Nat) := lw_privs_1
def lw_tbl : List Cond := k2_sels lw_privs ++ tables_1
theorem lw_privs_ok : ∀ q ∈ lw_privs, lw_okq q := lw_r1
end
section
/-! ===== BEGIN words of one list among another's, by their places ===== -/
theorem goodIn_r {big : List Cond} (ws : List Cond) (ps : List Nat) (hp : ws = ps.filterMap (fun i => big[i]?)) (h : ws.all goodWord = true) : GoodIn big ws := by
  intro w hw
  have h1 := List.all_eq_true.mp h w hw
  rw [hp] at hw
  obtain ⟨i, -, hi⟩ := List.mem_filterMap.mp hw
  have hm : w ∈ big := by first | exact List.mem_of_getElem? hi | exact List.getElem?_mem hi
  exact ⟨hm, good_of_word h1⟩
theorem goodIn_app {big a b : List Cond} (ha : GoodIn big a) (hb : GoodIn big b) : GoodIn big (a ++ b) := fun w h => (List.mem_append.mp h).elim (ha w) (hb w)
theorem goodIn_ca {big a b : List Cond} {c : Cond} (ha : GoodIn big (c :: a)) (hb : GoodIn big b) : GoodIn big (c :: (a ++ b)) := fun w h => (List.mem_cons.mp h).elim (fun e => ha w (List.mem_cons.mpr (Or.inl e))) (fun h => (List.mem_append.mp h).elim (fun h => ha w (List.mem_cons.mpr (Or.inr h))) (hb w))
theorem goodIn_sub {big ws : List Cond} (hm : ∀ w ∈ ws, w ∈ big) (h : ws.all goodWord = true) : GoodIn big ws := fun w hw => ⟨hm w hw, good_of_word (List.all_eq_true.mp h w hw)⟩
/-! ===== END ===== -/

/-! ===== BEGIN exceptions that leave a method, and their catching by the caller (launches without stack traces) ===== -/
section VXA
/-! The laws vx_back, vx_callV, vx_callS, vx_callSW, vx_throw0, vx_throwS follow proofs of the library, with one case more: JvmDerived/Free/Laws.lean (Back.of_free), Shelf42/LK1.lean (callV, callS), Shelf/KitTraced.lean (throwNew0V, throwNewS). -/
/-- where a method has thrown q: the class by its name, the cell, what was written, the world -/
def vx_T (XC : String → State → State → Prop) (st : State) (q : Addr) (t : State) (mc ms : Nat) (free : Addr → Prop) : Prop :=
  ∃ (E : String) (ce : Cell) (L : List Loc), XC E st t ∧ t.heap[q]? = some ce ∧ ce.vm = .none ∧ st.vm.findClass E = some ce.cls ∧ st.WarmedH t.vm ∧ st.sameButNew ({ t with vm := st.vm } : State) L mc ms ∧ ∀ z ∈ L, free z.base
def vx_Q (Qc : Array Value → State → Outcome → State → Prop) (XC : String → State → State → Prop) (mc ms : Nat) (free : Addr → Prop) : Array Value → State → Outcome → State → Prop := fun a st o t =>
  (Qc a st o t ∧ ∃ L, FrameEnd st o t L mc ms ∧ ∀ q ∈ L, free q.base) ∨ ∃ q, o = .threw q ∧ vx_T XC st q t mc ms free
/-- a callee that returns or throws -/
def vx_Met (l : Launch) (y : MethodName) (ws : List Cond) (rm : Room) (Pc : Array Value → State → Prop) (Qc : Array Value → State → Outcome → State → Prop) (XC : String → State → State → Prop) (mc ms : Nat) (free : Addr → Prop) : Prop :=
  MetFree l y (headSpec ws rm) Pc (fun _ _ _ _ _ => True) (vx_Q Qc XC mc ms free)
def vx_Post (XC : String → State → State → Prop) (mc ms : Nat) (free : Addr → Prop) : Pt → Array Value → Addr → Pt → Prop := fun A a q B =>
  ∃ (g : JFrame) (mk : MethodId) (t : State) (L : List Loc) (E : String) (ce : Cell), B.U.heap = t.heap ∧ B.U.vm = t.vm ∧ XC E (A.U.calling g mk a) t ∧ t.heap[q]? = some ce ∧ ce.vm = .none ∧ A.U.vm.findClass E = some ce.cls ∧ B.locs = A.locs ++ L ∧ (∀ z ∈ L, free z.base) ∧ B.cells = A.cells + mc ∧ B.slots = A.slots + ms
def vx_Back (l : Launch) (R : Room) (p : Program) (e : Env) (below : List Frame) (s : State) (sargs : Array Value) (y : MethodName) (len W9 : Nat)
    (Pre : Pt → Array Value → Prop) (Post : Pt → Array Value → Option Value → Pt → Prop) (PostX : Pt → Array Value → Addr → Pt → Prop) : Prop :=
  ∀ (m : MethodId) (meth : Method) (c : Code) (A : Pt) (g : JFrame) (ig : Instr) (mk : MethodId) (a : Array Value),
    Stand p l e R s m sargs below meth c A.U A.locs A.cells A.slots → g.method = m → g.locals.size = c.maxLocals → decode c.code g.pc = .ok (ig, len) →
    2 * g.monitorRoom + (g.stack.map fun v => v.category).sum ≤ W9 → A.U.methodNamed? y = some mk → Pre A a →
    (∃ (v : Option Value) (B : Pt), Stand p l e R s m sargs below meth c B.U B.locs B.cells B.slots ∧ Post A a v B ∧
      Steps p.tables e below (doInvoke e (A.U.setTop g) [] mk a).1 (B.U.setTop { g with pc := g.pc + len, stack := v.toList ++ g.stack })) ∨
    (∃ (q : Addr) (B : Pt), Stand p l e R s m sargs below meth c B.U B.locs B.cells B.slots ∧ PostX A a q B ∧
      Steps p.tables e below (doInvoke e (A.U.setTop g) [] mk a).1 ((B.U.setTop g).pushFrame (.throwing q)))
section Payer
variable {l : Launch} {R : Room} {p : Program} {e : Env} {below : List Frame} {s : State} {sargs : Array Value} {y : MethodName} {len W9 : Nat}
theorem vx_back {ws : List Cond} {rm : Room} {Pc : Array Value → State → Prop} {Qc : Array Value → State → Outcome → State → Prop} {XC : String → State → State → Prop} {mc ms : Nat} {free : Addr → Prop} {bytes : ByteArray} {maxL : Nat} {ret : Option FieldType}
    (hM : vx_Met l y ws rm Pc Qc XC mc ms free) (hblind : FrameBlind Pc) (hrc : rm.cells = mc) (hrs : rm.slots = ms)
    (hframes : rm.frames + 1 ≤ R.frames) (hlocals : W9 + (maxL + 11) + rm.locals ≤ R.locals)
    (hws : ∀ w ∈ ws, ∀ a' U, s.WarmedH U.vm → w.before a' U = true) (hcode : Cond.code y bytes maxL ret ∈ ws) (hinit : ∀ a' U, s.WarmedH U.vm → (Cond.initialized y.cls).before a' U = true) :
    vx_Back l R p e below s sargs y len W9 (PreOf R mc ms Pc) (PostOf Qc mc ms free) (vx_Post XC mc ms free) := by
  intro m meth c A g ig mk a X hg hsize hdg hW hn hp
  have h1 : (headSpec ws rm).pre.before a A.U = true := atoms_intro fun w hw => hws w hw _ _ X.warmed
  have h2 : (Cond.code y bytes maxL ret).before a A.U = true := hws _ hcode _ _ X.warmed
  have h3 : (Cond.initialized y.cls).before a A.U = true := hinit _ _ X.warmed
  have h4 : A.cells + (headSpec ws rm).room.cells ≤ R.cells := by rw [show (headSpec ws rm).room.cells = mc from hrc]; exact hp.1
  have h5 : A.slots + (headSpec ws rm).room.slots ≤ R.slots := by rw [show (headSpec ws rm).room.slots = ms from hrs]; exact hp.2.1
  have hPc : Pc a (A.U.calling g mk a) := hblind _ _ _ _ hp.2.2
  obtain ⟨U, Ls, c0, s0⟩ := A
  dsimp only [Pt.U, Pt.locs, Pt.cells, Pt.slots] at h1 h2 h3 h4 h5 X hn hPc ⊢
  obtain ⟨methY, cY, hmY, hcY, -, hlY, -, -, -, -⟩ := Cond.code_spec hn h2
  obtain ⟨kY, hkY, -⟩ := className_of_methodNamed hn
  have hinitY : kY.init = .initialized := Cond.initialized_spec (findClass_of_methodNamed hn) hkY h3
  have h : At U g.method c below := by rw [hg]; exact X.here
  have hlocals9 : W9 + (maxL + 11) + (headSpec ws rm).room.locals ≤ R.locals := hlocals
  have happ : (headSpec ws rm).appliesLoose y e.platform (U.calling g mk a) = true :=
    Spec.appliesLoose_calling (g := g) h hdg hn hkY hinitY
      (X.room_calling (g := g) (R' := (headSpec ws rm).room) hsize hmY hcY hframes (by rw [hlY]; omega) h4 h5) h1
  obtain ⟨mid, hmid⟩ := h.above
  have hfr : (U.setTop g).frames = (.java g :: mid) ++ below := by rw [State.frames_setTop' g h.top, hmid]; rfl
  obtain ⟨o, s₂, hsteps, -, hend, hq⟩ := Steps.callFree hM p X.admits X.cas X.clock (acts := []) hfr happ hPc trivial
  have hq' : vx_Q Qc XC mc ms free a (U.calling g mk a) o s₂ := hq
  rw [State.frames_setTop' g h.top] at hend
  obtain ⟨g₀, hg0⟩ := Option.isSome_iff_exists.mp h.top
  obtain ⟨r, hr⟩ := State.topJava?_eq_some.mp hg0
  have hr' : (({ U with heap := s₂.heap, slotsUsed := s₂.slotsUsed } : State).setVm s₂.vm).frames = .java g₀ :: r := hr
  rcases hq' with ⟨hqc, L, hfe, hL⟩ | ⟨q, rfl, E, ce, L, hx, hce, hcv, hcl, hW₂, hsm, hL⟩
  · obtain ⟨⟨v, rfl⟩, hW₂, e2, q2, q3, q4, q5, q6⟩ := id hfe
    have e3 : s₂ = ({ (U.calling g mk a).setFrames s₂.frames with heap := s₂.heap, slotsUsed := s₂.slotsUsed } : State).setVm s₂.vm := by
      have : s₂ = ({ s₂ with vm := (U.calling g mk a).vm } : State).setVm s₂.vm := rfl
      rw [e2] at this
      exact this
    obtain ⟨c₂, i₂, len₂, hc₂, hd₂, hf₂⟩ := hend
    have hW' : U.WarmedH s₂.vm := hW₂
    have hcc : c₂ = c := by
      have h1 : s₂.code? g.method = U.code? g.method := by
        rw [State.code?_eq, State.code?_eq, hW'.alike.method?]
      exact Option.some.inj (hc₂.symm.trans (h1.trans h.code))
    subst hcc
    have hlen : len₂ = len := by rw [hdg] at hd₂; cases hd₂; rfl
    subst hlen
    have hs₂ : s₂ = (({ U with heap := s₂.heap, slotsUsed := s₂.slotsUsed } : State).setVm s₂.vm).setTop { g with pc := g.pc + len₂, stack := v.toList ++ g.stack } := by
      refine e3.trans ?_
      rw [hf₂, State.calling_eq h.top, State.setFrames_setFrames, State.setTop_of_frames _ hr', hr]
      rfl
    have hsame : U.sameButNew ({ U with heap := s₂.heap, slotsUsed := s₂.slotsUsed } : State) L mc ms := by
      refine ⟨?_, q2, q3, q4, q5, q6⟩
      obtain ⟨t, ht, -⟩ := State.frames_cons hr
      show ({ U with heap := s₂.heap, slotsUsed := s₂.slotsUsed } : State) = { U.setFrames U.frames with heap := s₂.heap, slotsUsed := s₂.slotsUsed }
      rw [State.setFrames_self ht]
    subst hg
    refine Or.inl ⟨v, ⟨(({ U with heap := s₂.heap, slotsUsed := s₂.slotsUsed } : State).setVm s₂.vm), Ls ++ L, c0 + mc, s0 + ms⟩,
      ⟨X.admits, X.cas, X.clock, X.frames, X.room, X.hears, X.method, X.code, (X.here.setHeapUsed s₂.heap s₂.slotsUsed).setVm hW'.alike, X.tail, State.WarmedH.trans X.warmed hW', X.limits, X.bytes, X.same.trans (hsame.setVm s.vm)⟩,
      ⟨g, mk, s₂, L, rfl, rfl, hqc, rfl, hL, rfl, rfl⟩, ?_⟩
    show Steps p.tables e below _ ((({ U with heap := s₂.heap, slotsUsed := s₂.slotsUsed } : State).setVm s₂.vm).setTop { g with pc := g.pc + len₂, stack := v.toList ++ g.stack })
    rw [← hs₂]
    exact hsteps
  · obtain ⟨e2, q2, q3, q4, q5, q6⟩ := id hsm
    have e3 : s₂ = ({ (U.calling g mk a).setFrames s₂.frames with heap := s₂.heap, slotsUsed := s₂.slotsUsed } : State).setVm s₂.vm := by
      have : s₂ = ({ s₂ with vm := (U.calling g mk a).vm } : State).setVm s₂.vm := rfl
      rw [e2] at this
      exact this
    have hf₂ : s₂.frames = .throwing q :: .java g :: U.frames.tail := hend
    have hW' : U.WarmedH s₂.vm := hW₂
    have hs₂ : s₂ = ((({ U with heap := s₂.heap, slotsUsed := s₂.slotsUsed } : State).setVm s₂.vm).setTop g).pushFrame (.throwing q) := by
      refine e3.trans ?_
      rw [hf₂, State.calling_eq h.top, State.setFrames_setFrames, State.pushFrame, State.frames_setTop _ hr', State.setTop_of_frames _ hr', State.setFrames_setFrames, hr]
      rfl
    have hsame : U.sameButNew ({ U with heap := s₂.heap, slotsUsed := s₂.slotsUsed } : State) L mc ms := by
      refine ⟨?_, q2, q3, q4, q5, q6⟩
      obtain ⟨t, ht, -⟩ := State.frames_cons hr
      show ({ U with heap := s₂.heap, slotsUsed := s₂.slotsUsed } : State) = { U.setFrames U.frames with heap := s₂.heap, slotsUsed := s₂.slotsUsed }
      rw [State.setFrames_self ht]
    subst hg
    refine Or.inr ⟨q, ⟨(({ U with heap := s₂.heap, slotsUsed := s₂.slotsUsed } : State).setVm s₂.vm), Ls ++ L, c0 + mc, s0 + ms⟩,
      ⟨X.admits, X.cas, X.clock, X.frames, X.room, X.hears, X.method, X.code, (X.here.setHeapUsed s₂.heap s₂.slotsUsed).setVm hW'.alike, X.tail, State.WarmedH.trans X.warmed hW', X.limits, X.bytes, X.same.trans (hsame.setVm s.vm)⟩,
      ⟨g, mk, s₂, L, E, ce, rfl, rfl, hx, hce, hcv, hcl, rfl, hL, rfl, rfl⟩, ?_⟩
    show Steps p.tables e below _ (((({ U with heap := s₂.heap, slotsUsed := s₂.slotsUsed } : State).setVm s₂.vm).setTop g).pushFrame (.throwing q))
    rw [← hs₂]
    exact hsteps
end Payer
section Calls
variable {p : Program} {l : Launch} {e : Env} {R : Room} {s : State} {m : MethodId} {args : Array Value} {below : List Frame} {meth : Method} {c : Code} {T : State} {locs : List Loc} {cells slots : Nat}
theorem vx_callV (X : Stand p l e R s m args below meth c T locs cells slots) (hexec : p.tables.exec = Jvm.exec) {own C : String} {index : Nat} {y : MethodName} {bytes : ByteArray} {maxL : Nat} {ret : Option FieldType}
    (hown : s.vm.findClass own = some m.cls) (hlink : (Cond.methodLink own index y).before args s = true) (hinst : (Cond.instanceMethod y).before args s = true) (hsel : (Cond.selects C y y).before args s = true)
    (hcode : (Cond.code y bytes maxL ret).before args s = true) (hy : y.cls ≠ "java/lang/invoke/MethodHandle" ∧ y.cls ≠ "java/lang/invoke/VarHandle")
    {W9 : Nat} {Pre : Pt → Array Value → Prop} {Post : Pt → Array Value → Option Value → Pt → Prop} {PostX : Pt → Array Value → Addr → Pt → Prop} (hK : vx_Back l R p e below s args y 3 W9 Pre Post PostX)
    {b : Addr} {cellB : Cell} (hcell : T.heap[b]? = some cellB) (hobj : cellB.vm.isStatics = false) (hcls : s.vm.findClass C = some cellB.cls)
    {g : JFrame} (hg : g.method = m) (hsize : g.locals.size = c.maxLocals) {argsL rest : List Value} (hlen : ∀ sig, parseMethodDescriptor y.desc = some sig → argsL.length = sig.parameters.length)
    (hstack : g.stack = argsL.reverse ++ .ref b :: rest) (hW : 2 * g.monitorRoom + (rest.map fun v => v.category).sum ≤ W9) (hdg : decode c.code g.pc = .ok (.invokevirtual index, 3))
    (hpre : ∀ vm₁, s.WarmedH vm₁ → Pre ⟨T.setVm vm₁, locs, cells, slots⟩ (Value.ref b :: argsL).toArray) :
    (∃ (v : Option Value) (vm₁ : Vm) (B : Pt), s.WarmedH vm₁ ∧ Stand p l e R s m args below meth c B.U B.locs B.cells B.slots ∧ Post ⟨T.setVm vm₁, locs, cells, slots⟩ (Value.ref b :: argsL).toArray v B ∧
      ∀ target, Steps p.tables e below (B.U.setTop { g with pc := g.pc + 3, stack := v.toList ++ rest }) target → Steps p.tables e below (T.setTop g) target) ∨
    (∃ (q : Addr) (vm₁ : Vm) (B : Pt), s.WarmedH vm₁ ∧ Stand p l e R s m args below meth c B.U B.locs B.cells B.slots ∧ PostX ⟨T.setVm vm₁, locs, cells, slots⟩ (Value.ref b :: argsL).toArray q B ∧
      Steps p.tables e below (T.setTop g) ((B.U.setTop { g with stack := rest }).pushFrame (.throwing q))) := by
  obtain ⟨mk, methM, hnamed, hmethM, hstM, habM⟩ := Cond.instanceMethod_spec hinst
  obtain ⟨methM', cM, hmethM', -, -, -, -, -, -, hsigM⟩ := Cond.code_spec hnamed hcode
  cases hmethM.symm.trans hmethM'
  obtain ⟨c2, r2, m2, q1, q2, q3, q4, kP, hkP, hkPi⟩ := Cond.selects_spec hsel
  cases hcls.symm.trans q1
  cases (State.methodFound?_of_named hnamed hy).symm.trans q2
  cases hnamed.symm.trans q3
  have hselP : selectMethod e.platform s.vm cellB.cls mk = .method mk := by rw [Launch.admits_selectMethod X.admits]; exact q4
  obtain ⟨vm₁, X₁, hstep₁⟩ := X.invokevirtual hexec hown hlink hnamed hmethM hstM hkP hkPi hy (a := b) (cell := cellB) hcell
    (fun z h => by rw [h] at hobj; cases hobj) hselP hmethM habM hkP hkPi (g := g) hg (argsL := argsL) (rest := rest) (hlen _ hsigM) hstack hdg
  rcases hK m meth c ⟨T.setVm vm₁, locs, cells, slots⟩ { g with stack := rest } (.invokevirtual index) mk (Value.ref b :: argsL).toArray X₁ hg hsize hdg hW (X₁.named hnamed) (hpre vm₁ X₁.warmed) with ⟨v, B, X', hpost, hsteps⟩ | ⟨q, B, X', hpost, hsteps⟩
  · exact Or.inl ⟨v, vm₁, B, X₁.warmed, X', hpost, fun target h => hstep₁ _ fun acts => by rw [doInvoke_state]; exact hsteps.trans h⟩
  · exact Or.inr ⟨q, vm₁, B, X₁.warmed, X', hpost, hstep₁ _ fun acts => by rw [doInvoke_state]; exact hsteps⟩
theorem vx_callS (X : Stand p l e R s m args below meth c T locs cells slots) (hexec : p.tables.exec = Jvm.exec) {own : String} {index : Nat} {y : MethodName} {bytes : ByteArray} {maxL : Nat} {ret : Option FieldType}
    (hown : s.vm.findClass own = some m.cls) (hlink : (Cond.methodLink own index y).before args s = true) (hstat : (Cond.static y).before args s = true) (hinit : (Cond.initialized y.cls).before args s = true)
    (hcode : (Cond.code y bytes maxL ret).before args s = true) (hy : y.cls ≠ "java/lang/invoke/MethodHandle" ∧ y.cls ≠ "java/lang/invoke/VarHandle")
    {W9 : Nat} {Pre : Pt → Array Value → Prop} {Post : Pt → Array Value → Option Value → Pt → Prop} {PostX : Pt → Array Value → Addr → Pt → Prop} (hK : vx_Back l R p e below s args y 3 W9 Pre Post PostX)
    {g : JFrame} (hg : g.method = m) (hsize : g.locals.size = c.maxLocals) {argsL rest : List Value} (hlen : ∀ sig, parseMethodDescriptor y.desc = some sig → argsL.length = sig.parameters.length)
    (hstack : g.stack = argsL.reverse ++ rest) (hW : 2 * g.monitorRoom + (rest.map fun v => v.category).sum ≤ W9) (hdg : decode c.code g.pc = .ok (.invokestatic index, 3))
    (hpre : ∀ vm₁, s.WarmedH vm₁ → Pre ⟨T.setVm vm₁, locs, cells, slots⟩ argsL.toArray) :
    (∃ (v : Option Value) (vm₁ : Vm) (B : Pt), s.WarmedH vm₁ ∧ Stand p l e R s m args below meth c B.U B.locs B.cells B.slots ∧ Post ⟨T.setVm vm₁, locs, cells, slots⟩ argsL.toArray v B ∧
      ∀ target, Steps p.tables e below (B.U.setTop { g with pc := g.pc + 3, stack := v.toList ++ rest }) target → Steps p.tables e below (T.setTop g) target) ∨
    (∃ (q : Addr) (vm₁ : Vm) (B : Pt), s.WarmedH vm₁ ∧ Stand p l e R s m args below meth c B.U B.locs B.cells B.slots ∧ PostX ⟨T.setVm vm₁, locs, cells, slots⟩ argsL.toArray q B ∧
      Steps p.tables e below (T.setTop g) ((B.U.setTop { g with stack := rest }).pushFrame (.throwing q))) := by
  obtain ⟨mk, hnamed⟩ := Cond.code_named hcode
  obtain ⟨methM, cM, hmethM, -, -, -, -, -, -, hsigM⟩ := Cond.code_spec hnamed hcode
  have hstatic : methM.isStatic = true := Cond.static_spec hnamed hmethM hstat
  obtain ⟨kP, hkP, -⟩ := className_of_methodNamed hnamed
  have hinitP : kP.init = .initialized := Cond.initialized_spec (findClass_of_methodNamed hnamed) hkP hinit
  obtain ⟨vm₁, X₁, hstep₁⟩ := X.invokestatic hexec hown hlink hnamed hmethM hstatic hkP hinitP hy (g := g) hg (argsL := argsL) (rest := rest) (hlen _ hsigM) hstack hdg
  rcases hK m meth c ⟨T.setVm vm₁, locs, cells, slots⟩ { g with stack := rest } (.invokestatic index) mk argsL.toArray X₁ hg hsize hdg hW (X₁.named hnamed) (hpre vm₁ X₁.warmed) with ⟨v, B, X', hpost, hsteps⟩ | ⟨q, B, X', hpost, hsteps⟩
  · exact Or.inl ⟨v, vm₁, B, X₁.warmed, X', hpost, fun target h => hstep₁ _ fun acts => by rw [doInvoke_state]; exact hsteps.trans h⟩
  · exact Or.inr ⟨q, vm₁, B, X₁.warmed, X', hpost, hstep₁ _ fun acts => by rw [doInvoke_state]; exact hsteps⟩
end Calls
theorem vx_cls {s : State} {T : State} {vm₁ : Vm} {E : String} {k : ClassId} (hW : s.WarmedH vm₁) (h : (T.setVm vm₁).vm.findClass E = some k) : s.vm.findClass E = some k := by
  have h1 : vm₁.findClass E = some k := h
  rw [hW.alike.findClass] at h1
  exact h1
/-- the method's frame g, with q thrown over it -/
def vx_W (p : Program) (l : Launch) (e : Env) (R : Room) (s : State) (m : MethodId) (args : Array Value) (below : List Frame) (meth : Method) (c : Code) (H : Heap) (locs : List Loc) (cells slots : Nat) (Q : State → Prop) (g : JFrame) (q : Addr) : Prop :=
  ∀ T : State, T.heap = H → Stand p l e R s m args below meth c T locs cells slots → ∃ t, Steps p.tables e below ((T.setTop g).pushFrame (.throwing q)) t ∧ Q t
def vx_Run (p : Program) (l : Launch) (e : Env) (R : Room) (s : State) (m : MethodId) (args : Array Value) (below : List Frame) (meth : Method) (c : Code) (H : Heap) (locs : List Loc) (cells slots mc ms : Nat) (g : JFrame) (rest : List Value) (Qa : State → Outcome → State → Prop) (XC : String → State → State → Prop) (free : Addr → Prop) : Prop :=
  ∀ T : State, T.heap = H → Stand p l e R s m args below meth c T locs cells slots →
    (∃ (v : Option Value) (st₀ t T' : State) (L : List Loc), st₀.heap = H ∧ Stand p l e R s m args below meth c T' (locs ++ L) (cells + mc) (slots + ms) ∧ (∀ q ∈ L, free q.base) ∧ T'.heap = t.heap ∧ T'.vm = t.vm ∧ Qa st₀ (.returned v) t ∧
      Goes p e below T g T' { g with pc := g.pc + 3, stack := v.toList ++ rest }) ∨
    (∃ (q : Addr) (st₀ t T' : State) (L : List Loc) (E : String) (ce : Cell), st₀.heap = H ∧ Stand p l e R s m args below meth c T' (locs ++ L) (cells + mc) (slots + ms) ∧ (∀ z ∈ L, free z.base) ∧ T'.heap = t.heap ∧ T'.vm = t.vm ∧ XC E st₀ t ∧ t.heap[q]? = some ce ∧ ce.vm = .none ∧ s.vm.findClass E = some ce.cls ∧
      Steps p.tables e below (T.setTop g) ((T'.setTop { g with stack := rest }).pushFrame (.throwing q)))
def vx_X {S : Type} (px : S → Prop) (B : String → S → State → Prop) (A : Nat → Prop) : String → State → State → Prop := fun E st t => ∃ u : S, px u ∧ B E u t ∧ va_F A st t
section Runs
variable {p : Program} {l : Launch} {e : Env} {R : Room} {s : State} {m : MethodId} {args : Array Value} {below : List Frame} {meth : Method} {c : Code} {H : Heap} {locs : List Loc} {cells slots : Nat}
variable {y : MethodName} {bytes cc : ByteArray} {maxL nL mc ms n index : Nat} {ret : Option FieldType} {ws : List Cond} {rm : Room} {Pc : Array Value → State → Prop} {Qc : Array Value → State → Outcome → State → Prop} {XC : String → State → State → Prop} {free : Addr → Prop} {Ts : List Cond} {own C : String} {b : Addr} {As rest : List Value} {g : JFrame}
theorem vx_callBack (cb : CallB R s args own index y bytes maxL ret ws rm mc ms n) (hM : vx_Met l y ws rm Pc Qc XC mc ms free) (hbl : FrameBlind Pc) : vx_Back l R p e below s args y 3 8 (PreOf R mc ms Pc) (PostOf Qc mc ms free) (vx_Post XC mc ms free) := by
  obtain ⟨hrc, hrs, hfr, hlo, hws, hcw, -, hini, -⟩ := cb
  exact vx_back (bytes := bytes) (maxL := maxL) (ret := ret) hM hbl hrc hrs hfr hlo hws hcw (fun a' U hW => word_at hW (Or.inl (by first | rfl | simp [Cond.onTables, Cond.keeps, Cond.steady])) hini)
theorem vx_runV (S : CallFix p m c cc nL s args Ts own) (hM : vx_Met l y ws rm Pc Qc XC mc ms free) (cw : CallW R s args own C index y bytes maxL ret ws rm mc ms n) (hp : PreV s H C b Pc As)
    (hg : g.method = m) (hn : As.length = n) (hsize : g.locals.size = nL) (hstack : g.stack = As.reverse ++ .ref b :: rest) (hW : 2 * g.monitorRoom + (rest.map fun v => v.category).sum ≤ 8) (hdg : decode cc g.pc = .ok (.invokevirtual index, 3)) (hf : cells + mc ≤ R.cells ∧ slots + ms ≤ R.slots) :
    vx_Run p l e R s m args below meth c H locs cells slots mc ms g rest (Qc (Value.ref b :: As).toArray) XC free := by
  have hK : vx_Back l R p e below s args y 3 8 (PreOf R mc ms Pc) (PostOf Qc mc ms free) (vx_Post XC mc ms free) := vx_callBack cw.1 hM hp.1
  obtain ⟨⟨-, -, -, -, -, -, hcode, -, hy, hlen, hl⟩, hin, hse⟩ := cw
  obtain ⟨hx, hb, hml, ho, -⟩ := S
  obtain ⟨-, ⟨cellB, hcB, hoB, hclB⟩, hPc⟩ := hp
  intro T hT X
  rcases vx_callV X hx (C := C) (bytes := bytes) (maxL := maxL) (ret := ret) ho hl hin hse hcode hy hK (by rw [hT]; exact hcB) hoB hclB hg (hsize.trans hml.symm) (argsL := As) (rest := rest) (fun sig h => hn.trans (hlen sig h)) hstack hW (by rw [hb]; exact hdg)
    (fun vm₁ hW₁ => ⟨hf.1, hf.2, hPc (T.setVm vm₁) hT hW₁⟩) with ⟨v, vm₁, ⟨U', l2, c2, s2⟩, hW₁, X', ⟨g', mk, t, L, e1, e2, hq, h1, hL, h2, h3⟩, st⟩ | ⟨q, vm₁, ⟨U', l2, c2, s2⟩, hW₁, X', ⟨g', mk, t, L, E, ce, e1, e2, hq, hce, hcv, hcl, h1, hL, h2, h3⟩, st⟩
  · dsimp only [Pt.U, Pt.locs, Pt.cells, Pt.slots] at X' e1 e2 h1 h2 h3 st
    subst h1; subst h2; subst h3
    exact Or.inl ⟨v, (T.setVm vm₁).calling g' mk (Value.ref b :: As).toArray, t, U', L, hT, X', hL, e1, e2, hq, st⟩
  · dsimp only [Pt.U, Pt.locs, Pt.cells, Pt.slots] at X' e1 e2 h1 h2 h3 st hcl
    subst h1; subst h2; subst h3
    exact Or.inr ⟨q, (T.setVm vm₁).calling g' mk (Value.ref b :: As).toArray, t, U', L, E, ce, hT, X', hL, e1, e2, hq, hce, hcv, vx_cls hW₁ hcl, st⟩
theorem vx_runS (S : CallFix p m c cc nL s args Ts own) (hM : vx_Met l y ws rm Pc Qc XC mc ms free) (cw : CallB R s args own index y bytes maxL ret ws rm mc ms n ∧ (Cond.static y).before args s = true) (hp : PreS s H Pc As)
    (hg : g.method = m) (hn : As.length = n) (hsize : g.locals.size = nL) (hstack : g.stack = As.reverse ++ rest) (hW : 2 * g.monitorRoom + (rest.map fun v => v.category).sum ≤ 8) (hdg : decode cc g.pc = .ok (.invokestatic index, 3)) (hf : cells + mc ≤ R.cells ∧ slots + ms ≤ R.slots) :
    vx_Run p l e R s m args below meth c H locs cells slots mc ms g rest (Qc As.toArray) XC free := by
  have hK : vx_Back l R p e below s args y 3 8 (PreOf R mc ms Pc) (PostOf Qc mc ms free) (vx_Post XC mc ms free) := vx_callBack cw.1 hM hp.1
  obtain ⟨⟨-, -, -, -, -, -, hcode, hini, hy, hlen, hl⟩, hstt⟩ := cw
  obtain ⟨hx, hb, hml, ho, -⟩ := S
  intro T hT X
  rcases vx_callS X hx (bytes := bytes) (maxL := maxL) (ret := ret) ho hl hstt hini hcode hy hK hg (hsize.trans hml.symm) (argsL := As) (rest := rest) (fun sig h => hn.trans (hlen sig h)) hstack hW (by rw [hb]; exact hdg)
    (fun vm₁ hW₁ => ⟨hf.1, hf.2, hp.2 (T.setVm vm₁) hT hW₁⟩) with ⟨v, vm₁, ⟨U', l2, c2, s2⟩, hW₁, X', ⟨g', mk, t, L, e1, e2, hq, h1, hL, h2, h3⟩, st⟩ | ⟨q, vm₁, ⟨U', l2, c2, s2⟩, hW₁, X', ⟨g', mk, t, L, E, ce, e1, e2, hq, hce, hcv, hcl, h1, hL, h2, h3⟩, st⟩
  · dsimp only [Pt.U, Pt.locs, Pt.cells, Pt.slots] at X' e1 e2 h1 h2 h3 st
    subst h1; subst h2; subst h3
    exact Or.inl ⟨v, (T.setVm vm₁).calling g' mk As.toArray, t, U', L, hT, X', hL, e1, e2, hq, st⟩
  · dsimp only [Pt.U, Pt.locs, Pt.cells, Pt.slots] at X' e1 e2 h1 h2 h3 st hcl
    subst h1; subst h2; subst h3
    exact Or.inr ⟨q, (T.setVm vm₁).calling g' mk As.toArray, t, U', L, E, ce, hT, X', hL, e1, e2, hq, hce, hcv, vx_cls hW₁ hcl, st⟩
end Runs
section Rows
variable {p : Program} {l : Launch} {e : Env} {R : Room} {s : State} {m : MethodId} {args : Array Value} {below : List Frame} {meth : Method} {c : Code} {H : Heap} {locs : List Loc} {cells slots : Nat} {Q : State → Prop}
variable {mc ms : Nat} {free : Addr → Prop} {A0 A1 : Nat → Prop} {H0 : Heap} {a : Array Value} {pc : Nat} {ls : Array Slot} {st0 rest : List Value}
theorem vx_keep {st₀ t T' : State} {L : List Loc} (h0 : st₀.heap = H) (e1 : T'.heap = t.heap) (hS : va_S A0 H0 H locs) (hA : ∀ q, q < H.size → A1 q → A0 q) (hf : ∀ q, free q → A0 q) (hL : ∀ q ∈ L, free q.base) (hF : va_F A1 st₀ t) :
    H.size ≤ T'.heap.size ∧ (∀ q : Nat, q < H.size → ¬ A1 q → T'.heap[q]? = H[q]?) ∧ va_S A0 H0 T'.heap (locs ++ L) := by
  obtain ⟨hz, hk⟩ := hF
  rw [h0] at hz hk
  exact ⟨by rw [e1]; exact hz, fun q h1 h2 => by rw [e1]; exact hk q h1 h2,
    ⟨Nat.le_trans hS.1 (by rw [e1]; exact hz), fun q h1 h2 => by rw [e1, hk q (Nat.lt_of_lt_of_le h1 hS.1) (fun z => h2 (hA q (Nat.lt_of_lt_of_le h1 hS.1) z))]; exact hS.2.1 q h1 h2, fun q hq => by
      rcases List.mem_append.mp hq with h | h
      · exact hS.2.2 q h
      · exact hf _ (hL q h)⟩⟩
theorem vx_calli {S SX : Type} {post : Int32 → S → Prop} {px : SX → Prop} {B : S → State → Prop} {BX : String → SX → State → Prop} {AX : Nat → Prop} (hr : vx_Run p l e R s m args below meth c H locs cells slots mc ms (F0 m pc ls st0) rest (va_Qi post B A1 a) (vx_X px BX AX) free) (hS : va_S A0 H0 H locs) (hA : ∀ q, q < H.size → A1 q → A0 q) (hf : ∀ q, free q → A0 q) (hAX : ∀ q, q < H.size → AX q → A0 q)
    (kx : ∀ (E : String) (ce : Cell) (q9 : Addr) (u : SX) (t : State) (H1 : Heap) (locs1 : List Loc), t.heap = H1 → s.vm.Alike t.vm → px u → BX E u t → H.size ≤ H1.size → (∀ q : Nat, q < H.size → ¬ AX q → H1[q]? = H[q]?) → va_S A0 H0 H1 locs1 → H1[q9]? = some ce → ce.vm = .none → s.vm.findClass E = some ce.cls → vx_W p l e R s m args below meth c H1 locs1 (cells + mc) (slots + ms) Q (F0 m pc ls rest) q9)
    (kk : ∀ (r : Int32) (u : S) (t : State) (H1 : Heap) (locs1 : List Loc), t.heap = H1 → s.vm.Alike t.vm → post r u → B u t → H.size ≤ H1.size → (∀ q : Nat, q < H.size → ¬ A1 q → H1[q]? = H[q]?) → va_S A0 H0 H1 locs1 → W p l e R s m args below meth c H1 locs1 (cells + mc) (slots + ms) Q (F0 m (pc + 3) ls (.int r :: rest))) : W p l e R s m args below meth c H locs cells slots Q (F0 m pc ls st0) := by
  intro T hT X
  rcases hr T hT X with ⟨v, st₀, t, T', L, h0, X', hL, e1, e2, ⟨⟨r, u, hv, hp, hb⟩, hF⟩, st⟩ | ⟨q, st₀, t, T', L, E, ce, h0, X', hL, e1, e2, ⟨u, hp, hb, hF⟩, hce, hcv, hcl, st⟩
  · cases hv
    obtain ⟨k1, k2, k3⟩ := vx_keep h0 e1 hS hA hf hL hF
    obtain ⟨t2, a1, b1⟩ := kk r u t T'.heap (locs ++ L) e1.symm (by rw [← e2]; exact X'.warmed.alike) hp hb k1 k2 k3 T' rfl X'
    exact ⟨t2, st t2 a1, b1⟩
  · obtain ⟨k1, k2, k3⟩ := vx_keep h0 e1 hS hAX hf hL hF
    obtain ⟨t2, a1, b1⟩ := kx E ce q u t T'.heap (locs ++ L) e1.symm (by rw [← e2]; exact X'.warmed.alike) hp hb k1 k2 k3 (by rw [e1]; exact hce) hcv hcl T' rfl X'
    exact ⟨t2, st.trans a1, b1⟩
theorem vx_calll {S SX : Type} {post : Int64 → S → Prop} {px : SX → Prop} {B : S → State → Prop} {BX : String → SX → State → Prop} {AX : Nat → Prop} (hr : vx_Run p l e R s m args below meth c H locs cells slots mc ms (F0 m pc ls st0) rest (va_Ql post B A1 a) (vx_X px BX AX) free) (hS : va_S A0 H0 H locs) (hA : ∀ q, q < H.size → A1 q → A0 q) (hf : ∀ q, free q → A0 q) (hAX : ∀ q, q < H.size → AX q → A0 q)
    (kx : ∀ (E : String) (ce : Cell) (q9 : Addr) (u : SX) (t : State) (H1 : Heap) (locs1 : List Loc), t.heap = H1 → s.vm.Alike t.vm → px u → BX E u t → H.size ≤ H1.size → (∀ q : Nat, q < H.size → ¬ AX q → H1[q]? = H[q]?) → va_S A0 H0 H1 locs1 → H1[q9]? = some ce → ce.vm = .none → s.vm.findClass E = some ce.cls → vx_W p l e R s m args below meth c H1 locs1 (cells + mc) (slots + ms) Q (F0 m pc ls rest) q9)
    (kk : ∀ (r : Int64) (u : S) (t : State) (H1 : Heap) (locs1 : List Loc), t.heap = H1 → s.vm.Alike t.vm → post r u → B u t → H.size ≤ H1.size → (∀ q : Nat, q < H.size → ¬ A1 q → H1[q]? = H[q]?) → va_S A0 H0 H1 locs1 → W p l e R s m args below meth c H1 locs1 (cells + mc) (slots + ms) Q (F0 m (pc + 3) ls (.long r :: rest))) : W p l e R s m args below meth c H locs cells slots Q (F0 m pc ls st0) := by
  intro T hT X
  rcases hr T hT X with ⟨v, st₀, t, T', L, h0, X', hL, e1, e2, ⟨⟨r, u, hv, hp, hb⟩, hF⟩, st⟩ | ⟨q, st₀, t, T', L, E, ce, h0, X', hL, e1, e2, ⟨u, hp, hb, hF⟩, hce, hcv, hcl, st⟩
  · cases hv
    obtain ⟨k1, k2, k3⟩ := vx_keep h0 e1 hS hA hf hL hF
    obtain ⟨t2, a1, b1⟩ := kk r u t T'.heap (locs ++ L) e1.symm (by rw [← e2]; exact X'.warmed.alike) hp hb k1 k2 k3 T' rfl X'
    exact ⟨t2, st t2 a1, b1⟩
  · obtain ⟨k1, k2, k3⟩ := vx_keep h0 e1 hS hAX hf hL hF
    obtain ⟨t2, a1, b1⟩ := kx E ce q u t T'.heap (locs ++ L) e1.symm (by rw [← e2]; exact X'.warmed.alike) hp hb k1 k2 k3 (by rw [e1]; exact hce) hcv hcl T' rfl X'
    exact ⟨t2, st.trans a1, b1⟩
theorem vx_callf {S SX : Type} {post : UInt32 → S → Prop} {px : SX → Prop} {B : S → State → Prop} {BX : String → SX → State → Prop} {AX : Nat → Prop} (hr : vx_Run p l e R s m args below meth c H locs cells slots mc ms (F0 m pc ls st0) rest (va_Qf post B A1 a) (vx_X px BX AX) free) (hS : va_S A0 H0 H locs) (hA : ∀ q, q < H.size → A1 q → A0 q) (hf : ∀ q, free q → A0 q) (hAX : ∀ q, q < H.size → AX q → A0 q)
    (kx : ∀ (E : String) (ce : Cell) (q9 : Addr) (u : SX) (t : State) (H1 : Heap) (locs1 : List Loc), t.heap = H1 → s.vm.Alike t.vm → px u → BX E u t → H.size ≤ H1.size → (∀ q : Nat, q < H.size → ¬ AX q → H1[q]? = H[q]?) → va_S A0 H0 H1 locs1 → H1[q9]? = some ce → ce.vm = .none → s.vm.findClass E = some ce.cls → vx_W p l e R s m args below meth c H1 locs1 (cells + mc) (slots + ms) Q (F0 m pc ls rest) q9)
    (kk : ∀ (r : UInt32) (u : S) (t : State) (H1 : Heap) (locs1 : List Loc), t.heap = H1 → s.vm.Alike t.vm → post r u → B u t → H.size ≤ H1.size → (∀ q : Nat, q < H.size → ¬ A1 q → H1[q]? = H[q]?) → va_S A0 H0 H1 locs1 → W p l e R s m args below meth c H1 locs1 (cells + mc) (slots + ms) Q (F0 m (pc + 3) ls (.float r :: rest))) : W p l e R s m args below meth c H locs cells slots Q (F0 m pc ls st0) := by
  intro T hT X
  rcases hr T hT X with ⟨v, st₀, t, T', L, h0, X', hL, e1, e2, ⟨⟨r, u, hv, hp, hb⟩, hF⟩, st⟩ | ⟨q, st₀, t, T', L, E, ce, h0, X', hL, e1, e2, ⟨u, hp, hb, hF⟩, hce, hcv, hcl, st⟩
  · cases hv
    obtain ⟨k1, k2, k3⟩ := vx_keep h0 e1 hS hA hf hL hF
    obtain ⟨t2, a1, b1⟩ := kk r u t T'.heap (locs ++ L) e1.symm (by rw [← e2]; exact X'.warmed.alike) hp hb k1 k2 k3 T' rfl X'
    exact ⟨t2, st t2 a1, b1⟩
  · obtain ⟨k1, k2, k3⟩ := vx_keep h0 e1 hS hAX hf hL hF
    obtain ⟨t2, a1, b1⟩ := kx E ce q u t T'.heap (locs ++ L) e1.symm (by rw [← e2]; exact X'.warmed.alike) hp hb k1 k2 k3 (by rw [e1]; exact hce) hcv hcl T' rfl X'
    exact ⟨t2, st.trans a1, b1⟩
theorem vx_calld {S SX : Type} {post : UInt64 → S → Prop} {px : SX → Prop} {B : S → State → Prop} {BX : String → SX → State → Prop} {AX : Nat → Prop} (hr : vx_Run p l e R s m args below meth c H locs cells slots mc ms (F0 m pc ls st0) rest (va_Qd post B A1 a) (vx_X px BX AX) free) (hS : va_S A0 H0 H locs) (hA : ∀ q, q < H.size → A1 q → A0 q) (hf : ∀ q, free q → A0 q) (hAX : ∀ q, q < H.size → AX q → A0 q)
    (kx : ∀ (E : String) (ce : Cell) (q9 : Addr) (u : SX) (t : State) (H1 : Heap) (locs1 : List Loc), t.heap = H1 → s.vm.Alike t.vm → px u → BX E u t → H.size ≤ H1.size → (∀ q : Nat, q < H.size → ¬ AX q → H1[q]? = H[q]?) → va_S A0 H0 H1 locs1 → H1[q9]? = some ce → ce.vm = .none → s.vm.findClass E = some ce.cls → vx_W p l e R s m args below meth c H1 locs1 (cells + mc) (slots + ms) Q (F0 m pc ls rest) q9)
    (kk : ∀ (r : UInt64) (u : S) (t : State) (H1 : Heap) (locs1 : List Loc), t.heap = H1 → s.vm.Alike t.vm → post r u → B u t → H.size ≤ H1.size → (∀ q : Nat, q < H.size → ¬ A1 q → H1[q]? = H[q]?) → va_S A0 H0 H1 locs1 → W p l e R s m args below meth c H1 locs1 (cells + mc) (slots + ms) Q (F0 m (pc + 3) ls (.double r :: rest))) : W p l e R s m args below meth c H locs cells slots Q (F0 m pc ls st0) := by
  intro T hT X
  rcases hr T hT X with ⟨v, st₀, t, T', L, h0, X', hL, e1, e2, ⟨⟨r, u, hv, hp, hb⟩, hF⟩, st⟩ | ⟨q, st₀, t, T', L, E, ce, h0, X', hL, e1, e2, ⟨u, hp, hb, hF⟩, hce, hcv, hcl, st⟩
  · cases hv
    obtain ⟨k1, k2, k3⟩ := vx_keep h0 e1 hS hA hf hL hF
    obtain ⟨t2, a1, b1⟩ := kk r u t T'.heap (locs ++ L) e1.symm (by rw [← e2]; exact X'.warmed.alike) hp hb k1 k2 k3 T' rfl X'
    exact ⟨t2, st t2 a1, b1⟩
  · obtain ⟨k1, k2, k3⟩ := vx_keep h0 e1 hS hAX hf hL hF
    obtain ⟨t2, a1, b1⟩ := kx E ce q u t T'.heap (locs ++ L) e1.symm (by rw [← e2]; exact X'.warmed.alike) hp hb k1 k2 k3 (by rw [e1]; exact hce) hcv hcl T' rfl X'
    exact ⟨t2, st.trans a1, b1⟩
theorem vx_callv {S SX : Type} {post : S → Prop} {px : SX → Prop} {B : S → State → Prop} {BX : String → SX → State → Prop} {AX : Nat → Prop} (hr : vx_Run p l e R s m args below meth c H locs cells slots mc ms (F0 m pc ls st0) rest (va_Qv post B A1 a) (vx_X px BX AX) free) (hS : va_S A0 H0 H locs) (hA : ∀ q, q < H.size → A1 q → A0 q) (hf : ∀ q, free q → A0 q) (hAX : ∀ q, q < H.size → AX q → A0 q)
    (kx : ∀ (E : String) (ce : Cell) (q9 : Addr) (u : SX) (t : State) (H1 : Heap) (locs1 : List Loc), t.heap = H1 → s.vm.Alike t.vm → px u → BX E u t → H.size ≤ H1.size → (∀ q : Nat, q < H.size → ¬ AX q → H1[q]? = H[q]?) → va_S A0 H0 H1 locs1 → H1[q9]? = some ce → ce.vm = .none → s.vm.findClass E = some ce.cls → vx_W p l e R s m args below meth c H1 locs1 (cells + mc) (slots + ms) Q (F0 m pc ls rest) q9)
    (kk : ∀ (u : S) (t : State) (H1 : Heap) (locs1 : List Loc), t.heap = H1 → s.vm.Alike t.vm → post u → B u t → H.size ≤ H1.size → (∀ q : Nat, q < H.size → ¬ A1 q → H1[q]? = H[q]?) → va_S A0 H0 H1 locs1 → W p l e R s m args below meth c H1 locs1 (cells + mc) (slots + ms) Q (F0 m (pc + 3) ls (rest))) : W p l e R s m args below meth c H locs cells slots Q (F0 m pc ls st0) := by
  intro T hT X
  rcases hr T hT X with ⟨v, st₀, t, T', L, h0, X', hL, e1, e2, ⟨⟨u, hv, hp, hb⟩, hF⟩, st⟩ | ⟨q, st₀, t, T', L, E, ce, h0, X', hL, e1, e2, ⟨u, hp, hb, hF⟩, hce, hcv, hcl, st⟩
  · cases hv
    obtain ⟨k1, k2, k3⟩ := vx_keep h0 e1 hS hA hf hL hF
    obtain ⟨t2, a1, b1⟩ := kk u t T'.heap (locs ++ L) e1.symm (by rw [← e2]; exact X'.warmed.alike) hp hb k1 k2 k3 T' rfl X'
    exact ⟨t2, st t2 a1, b1⟩
  · obtain ⟨k1, k2, k3⟩ := vx_keep h0 e1 hS hAX hf hL hF
    obtain ⟨t2, a1, b1⟩ := kx E ce q u t T'.heap (locs ++ L) e1.symm (by rw [← e2]; exact X'.warmed.alike) hp hb k1 k2 k3 (by rw [e1]; exact hce) hcv hcl T' rfl X'
    exact ⟨t2, st.trans a1, b1⟩
/-- caught by the row x of this method's table; the rows ahead don't take it -/
theorem vx_catch {own name : String} {E : String} {ce : Cell} {q : Addr} (hown : s.vm.findClass own = some m.cls) (pre : List ExceptionTableEntry) (x : ExceptionTableEntry) (suf : List ExceptionTableEntry) (hsplit : c.exceptionTable.toList = pre ++ x :: suf)
    (hpass : ∀ z ∈ pre, covers z pc = false ∨ (z.catchType ≠ 0 ∧ ∃ nm : String, (Cond.classLink own z.catchType nm).before args s = true ∧ va_Nc E nm s)) (hx : covers x pc = true) (h0 : x.catchType ≠ 0)
    (hlink : (Cond.classLink own x.catchType name).before args s = true) (hcast : (Cond.castable E name).before args s = true) (hcell : H[q]? = some ce) (hv : ce.vm = .none) (hcl : s.vm.findClass E = some ce.cls)
    (kk : W p l e R s m args below meth c H locs cells slots Q (F0 m x.handlerPc ls [.ref q])) : vx_W p l e R s m args below meth c H locs cells slots Q (F0 m pc ls rest) q := by
  intro T hT X
  have hpl : e.platform.magicAccessors = ({} : Platform).magicAccessors := by rw [X.admits.platform]
  obtain ⟨c3, c4, hc3, hc4, hasg⟩ := Cond.castable_spec hcast
  cases Option.some.inj (hc3.symm.trans hcl)
  obtain ⟨c5, hc5, hcl5⟩ := Cond.classLink_spec hown hlink e.platform hpl
  cases Option.some.inj (hc4.symm.trans hc5)
  obtain ⟨vm', X', st⟩ := X.thenCaughtThrough q (g := F0 m pc ls rest) rfl (Steps.refl _) (by rw [hT]; exact hcell) (by rw [hv]; rfl) (by obtain ⟨k9, h9, -⟩ := Vm.findClass_spec hcl; exact ⟨k9, h9⟩) pre x suf hsplit
    (fun z hz => by
      rcases hpass z hz with h | ⟨hz0, nm, hl1, hn1⟩
      · exact Or.inl h
      · obtain ⟨c6, hc6, hcl6⟩ := Cond.classLink_spec hown hl1 e.platform hpl
        obtain ⟨a8, b8, h1, h2, h3⟩ := hn1
        cases Option.some.inj (h1.symm.trans hcl)
        cases Option.some.inj (h2.symm.trans hc6)
        exact Or.inr ⟨hz0, _, hcl6, h3⟩) hx (Or.inr ⟨h0, c4, hcl5, hasg⟩)
  obtain ⟨t, a1, b1⟩ := kk (T.setVm vm') hT X'
  exact ⟨t, st.trans a1, b1⟩
end Rows
section Ends
variable {p : Program} {l : Launch} {e : Env} {R : Room} {s : State} {m : MethodId} {args : Array Value} {below : List Frame} {meth : Method} {c : Code} {H : Heap} {locs : List Loc} {cells slots : Nat} {Q : State → Prop}
variable {mc ms : Nat} {free : Addr → Prop} {A0 A1 : Nat → Prop} {H0 : Heap} {a : Array Value} {ls : Array Slot} {st0 rest : List Value}
variable {Qc : Array Value → State → Outcome → State → Prop} {XC : String → State → State → Prop}
/-- what a body that may throw owes at its end -/
def vx_MQ (below : List Frame) (Qc : Array Value → State → Outcome → State → Prop) (XC : String → State → State → Prop) (a : Array Value) (s : State) (mc ms : Nat) (free : Addr → Prop) : State → Prop := fun t =>
  ∃ o, t.status = .running ∧ Ended t below o ∧ vx_Q Qc XC mc ms free a s o t
theorem vx_ret {g : JFrame} {mc ms : Nat} (k : W p l e R s m args below meth c H locs cells slots (MQ below Qc args s mc ms free) g) : W p l e R s m args below meth c H locs cells slots (vx_MQ below Qc XC args s mc ms free) g := by
  intro T hT X
  obtain ⟨t, a1, o, b1, b2, b3, b4⟩ := k T hT X
  exact ⟨t, a1, o, b1, b2, Or.inl ⟨b3, b4⟩⟩
/-- not caught here: it goes on to the caller -/
theorem vx_widen {g : JFrame} {q : Addr} {k n : Nat} (h1 : cells ≤ k) (h2 : slots ≤ n) (kk : vx_W p l e R s m args below meth c H locs k n Q g q) : vx_W p l e R s m args below meth c H locs cells slots Q g q := fun T hT X => kk T hT (stand_widen X h1 h2)
theorem vx_out {pc : Nat} {E : String} {ce : Cell} {q : Addr} {mc ms : Nat} (hout : ∀ x ∈ c.exceptionTable.toList, covers x pc = false) (hlocks : meth.locks = false) (hcell : H[q]? = some ce) (hv : ce.vm = .none) (hcl : s.vm.findClass E = some ce.cls)
    (hx : ∀ t : State, t.heap = H → s.vm.Alike t.vm → XC E s t) (hf : ∀ z ∈ locs, free z.base) (hc : cells ≤ mc) (hs : slots ≤ ms) :
    vx_W p l e R s m args below meth c H locs cells slots (vx_MQ below Qc XC args s mc ms free) (F0 m pc ls rest) q := by
  intro T hT X
  obtain ⟨st1, hrun, hend, hW, hsm⟩ := X.leaveThrown q (g := F0 m pc ls rest) rfl rfl rfl hout hlocks
  have hcell9 : (T.setFrames (.throwing q :: below)).heap[q]? = some ce := by
    show T.heap[q]? = some ce
    rw [hT]; exact hcell
  exact ⟨_, st1, .threw q, hrun, hend, Or.inr ⟨q, rfl, E, ce, locs, hx _ hT hW.alike, hcell9, hv, hcl, hW, hsm.mono hc hs, hf⟩⟩
theorem vx_frame {U : State} {k n : Nat} (h : s.sameButNew ({ U with vm := s.vm } : State) locs k n) : s.heap.size ≤ U.heap.size ∧ ∀ q : Nat, q < s.heap.size → (∀ z ∈ locs, z.base ≠ q) → U.heap[q]? = s.heap[q]? := by
  obtain ⟨-, h2, -, -, -, h6⟩ := h
  refine ⟨h2, fun q hq hz => ?_⟩
  obtain ⟨c9, e1, e2, e3, e4⟩ := h6 q _ (Array.getElem?_eq_getElem hq)
  have hs : c9.slots = (s.heap[q]).slots := Array.ext_getElem? fun i => e4 i fun hm => hz _ hm rfl
  have h9 : c9 = s.heap[q] := by
    rw [hs] at e2
    exact e2
  have e5 : U.heap[q]? = some c9 := e1
  rw [e5, h9, Array.getElem?_eq_getElem hq]
/-- the words of a throw but the four that speak of the heap -/
def vx_no (w : Cond) : Bool := decide (w ≠ .isRef (.static Bundle.tN "UNASSIGNED_STACK" Bundle.steD)) && decide (w ≠ .isRef (.static Bundle.tN "SUPPRESSED_SENTINEL" Bundle.listD)) && decide (w ≠ .laysStatic Bundle.tN "UNASSIGNED_STACK" Bundle.steD) && decide (w ≠ .laysStatic Bundle.tN "SUPPRESSED_SENTINEL" Bundle.listD)
def vx_at0 (own : String) (ic : Nat) (X : String) (names : List String) : List Cond := (Bundle.ownAtoms0 own ic X names).filter vx_no
def vx_atS (own : String) (ic : Nat) (X : String) (names : List String) : List Cond := (Bundle.ownAtoms own ic X names).filter vx_no
/-- a word that the tables alone decide, or a good one -/
def vx_ot (w : Cond) : Bool := w.onTables || goodWord w
theorem vx_ot_at {args a' : Array Value} {s U : State} {w : Cond} (hW : s.WarmedH U.vm) (hvm : s.vm = U.vm) (hg : vx_ot w = true) (h : w.before args s = true) : w.before a' U = true := by
  simp only [vx_ot, Bool.or_eq_true] at hg
  rcases hg with hg | hg
  · exact va_tabs hg hvm h
  · exact word_at hW (good_of_word hg) h
/-- a list's words: the good ones out of the method's own list, the others by premises of their own -/
theorem vx_hat {args : Array Value} {s : State} {L B : List Cond} (h1 : ∀ w ∈ L.filter goodWord, w.before args s = true) (h2 : ∀ w ∈ L.filter (fun w => !goodWord w), w ∈ B) (h3 : ∀ w ∈ B, w.before args s = true) : ∀ w ∈ L, w.before args s = true := by
  intro w hw
  by_cases g : goodWord w = true
  · exact h1 w (List.mem_filter.mpr ⟨hw, g⟩)
  · refine h3 w (h2 w (List.mem_filter.mpr ⟨hw, ?_⟩))
    show (!goodWord w) = true
    cases hgw : goodWord w
    · rfl
    · exact absurd hgw g
theorem vx_c {args : Array Value} {s : State} {w : Cond} {B : List Cond} (h : w.before args s = true) (t : ∀ w ∈ B, w.before args s = true) : ∀ w' ∈ w :: B, w'.before args s = true := fun w' h' => (List.mem_cons.mp h').elim (fun e => by rw [e]; exact h) (t w')
theorem vx_n {args : Array Value} {s : State} : ∀ w ∈ ([] : List Cond), w.before args s = true := fun _ h => nomatch h
theorem vx_own {args : Array Value} {s : State} {L : List Cond} (h1 : ∀ w ∈ L.filter vx_no, w.before args s = true)
    (hU : (Cond.isRef (.static Bundle.tN "UNASSIGNED_STACK" Bundle.steD)).before args s = true) (hN : (Cond.isRef (.static Bundle.tN "SUPPRESSED_SENTINEL" Bundle.listD)).before args s = true)
    (lU : (Cond.laysStatic Bundle.tN "UNASSIGNED_STACK" Bundle.steD).before args s = true) (lN : (Cond.laysStatic Bundle.tN "SUPPRESSED_SENTINEL" Bundle.listD).before args s = true) : ∀ w ∈ L, w.before args s = true := by
  intro w hw
  by_cases e1 : w = .isRef (.static Bundle.tN "UNASSIGNED_STACK" Bundle.steD)
  · rw [e1]; exact hU
  · by_cases e2 : w = .isRef (.static Bundle.tN "SUPPRESSED_SENTINEL" Bundle.listD)
    · rw [e2]; exact hN
    · by_cases e3 : w = .laysStatic Bundle.tN "UNASSIGNED_STACK" Bundle.steD
      · rw [e3]; exact lU
      · by_cases e4 : w = .laysStatic Bundle.tN "SUPPRESSED_SENTINEL" Bundle.listD
        · rw [e4]; exact lN
        · exact h1 w (List.mem_filter.mpr ⟨hw, by unfold vx_no; rw [decide_eq_true e1, decide_eq_true e2, decide_eq_true e3, decide_eq_true e4]; rfl⟩)
/-- where a static field lies, its class's statics cell in H -/
def vx_L (C n d : String) (A : Nat → Prop) (U : State) (H : Heap) : Prop := ∃ (c : ClassId) (k : Class) (i : Nat) (f : Field) (a : Nat) (cell : Cell), U.vm.findClass C = some c ∧ U.fieldFound? C n d = some (c, k, i, f) ∧ f.isStatic = true ∧ k.statics = some a ∧ H[a]? = some cell ∧ cell.vm.isStatics = true ∧ cell.cls = c ∧ f.slot < cell.slots.size ∧ k.staticTypes[f.slot]? = some f.type ∧ ¬ A a
theorem vx_L.moved {C n d : String} {A : Nat → Prop} {u U : State} {H : Heap} (hvm : u.vm.Alike U.vm) (h : vx_L C n d A u H) : vx_L C n d A U H := by
  obtain ⟨c, k, i, f, a, cell, h1, h2, h3, h4, h5, h6, h7, h8, h9, h10⟩ := h
  obtain ⟨k', hi', he⟩ := State.fieldFound?_setVm hvm h2
  exact ⟨c, k', i, f, a, cell, by rw [hvm.findClass]; exact h1, hi', h3, by rw [he]; exact h4, h5, h6, h7, h8, by rw [he]; exact h9, h10⟩
theorem vx_L.kept {C n d : String} {A : Nat → Prop} {U : State} {H H1 : Heap} (h : vx_L C n d A U H) (hq : ∀ a : Nat, a < H.size → ¬ A a → H1[a]? = H[a]?) : vx_L C n d A U H1 := by
  obtain ⟨c, k, i, f, a, cell, h1, h2, h3, h4, h5, h6, h7, h8, h9, h10⟩ := h
  exact ⟨c, k, i, f, a, cell, h1, h2, h3, h4, by rw [hq a (Array.getElem?_eq_some_iff.mp h5).1 h10]; exact h5, h6, h7, h8, h9, h10⟩
theorem vx_L.narrow {C n d : String} {A B : Nat → Prop} {U : State} {H : Heap} (h : vx_L C n d A U H) (hAB : ∀ q, B q → A q) : vx_L C n d B U H := by
  obtain ⟨c, k, i, f, a, cell, h1, h2, h3, h4, h5, h6, h7, h8, h9, h10⟩ := h
  exact ⟨c, k, i, f, a, cell, h1, h2, h3, h4, h5, h6, h7, h8, h9, fun z => h10 (hAB _ z)⟩
theorem vx_L.word {C n d : String} {A : Nat → Prop} {s : State} {args : Array Value} (h : vx_L C n d A s s.heap) : (Cond.laysStatic C n d).before args s = true := by
  obtain ⟨c, k, i, f, a, cell, h1, h2, h3, h4, h5, h6, h7, h8, h9, -⟩ := h
  show (Cond.laysStatic C n d).holds args s none s [] = true
  exact Cond.laysStatic_of h1 h2 h3 h4 h5 h6 h7 h8 h9
/-- .. and what it holds: null or some reference -/
def vx_Zq (C n d : String) (A : Nat → Prop) (U : State) (H : Heap) : Prop := va_Zq C n d A U H ∧ vx_L C n d A U H
theorem vx_Zq.moved {C n d : String} {A : Nat → Prop} {u U : State} {H : Heap} (hvm : u.vm.Alike U.vm) (h : vx_Zq C n d A u H) : vx_Zq C n d A U H := ⟨va_Zq.moved hvm h.1, vx_L.moved hvm h.2⟩
theorem vx_Zq.kept {C n d : String} {A : Nat → Prop} {U : State} {H H1 : Heap} (h : vx_Zq C n d A U H) (hq : ∀ a : Nat, a < H.size → ¬ A a → H1[a]? = H[a]?) : vx_Zq C n d A U H1 := ⟨va_Zq.kept h.1 hq, vx_L.kept h.2 hq⟩
theorem vx_Zq.narrow {C n d : String} {A B : Nat → Prop} {U : State} {H : Heap} (h : vx_Zq C n d A U H) (hAB : ∀ q, B q → A q) : vx_Zq C n d B U H := ⟨va_Zq.narrow h.1 hAB, vx_L.narrow h.2 hAB⟩
theorem vx_Zqof {args : Array Value} {s : State} {C n d : String} {A : Nat → Prop} (hl : (Cond.laysStatic C n d).before args s = true) (hini : (Cond.initialized C).before args s = true) (h : (Cond.isRef (.static C n d)).before args s = true) (hA : ∀ a : Nat, a < s.heap.size → ¬ A a) : vx_Zq C n d A s s.heap := by
  refine ⟨va_Zqof hl hini h hA, ?_⟩
  obtain ⟨c, k, i, f, a, cell, h1, h2, h3, h4, h5, h6, h7, h8, h9⟩ := Cond.laysStatic_spec hl
  exact ⟨c, k, i, f, a, cell, h1, h2, h3, h4, h5, h6, h7, h8, h9, hA a (Array.getElem?_eq_some_iff.mp h5).1⟩
theorem vx_isRef {C n d : String} {v : Value} {A : Nat → Prop} {s : State} {args : Array Value} (h : va_Z C n d v A s s.heap) (hv : v.isRef = true) : (Cond.isRef (.static C n d)).before args s = true := by
  obtain ⟨cf, kf, fi, f, a, cell, h1, h2, h3, h4, h5, h6, h7, -⟩ := h
  have he : (Term.static C n d).eval args s none [] s = some v := by
    simp [Term.eval, State.fieldNamed?, h1, h2, h4, h5, h6, h7]
  simp only [Cond.before, Cond.holds, Cond.value, he]
  cases v <;> simp_all [Value.isRef]
theorem vx_isRefq {C n d : String} {A : Nat → Prop} {s : State} {args : Array Value} (h : va_Zq C n d A s s.heap) : (Cond.isRef (.static C n d)).before args s = true := by
  rcases h with h | ⟨t, h⟩
  · exact vx_isRef h rfl
  · exact vx_isRef h rfl
/-- the same frame, seen from here: as if the method were called anew in this heap -/
theorem vx_rebase {T : State} (X : Stand p l e R s m args below meth c T locs cells slots) {R' : Room} (hf : R'.frames ≤ R.frames) (hl : R'.locals ≤ R.locals) (hc : cells + R'.cells ≤ R.cells) (hs : slots + R'.slots ≤ R.slots) :
    Stand p l e R' ((T.setVm s.vm).setFrames (.invoking m args :: below)) m args below meth c T [] 0 0 := by
  have htop : (T.setVm s.vm).topJava?.isSome := X.here.top
  have hF : ((T.setVm s.vm).setFrames (.invoking m args :: below)).frames = .invoking m args :: below := State.frames_setFrames _ (State.cur_lt_of_top htop)
  obtain ⟨g₀, hg0⟩ := Option.isSome_iff_exists.mp htop
  obtain ⟨r, hr⟩ := State.topJava?_eq_some.mp hg0
  have hl9 : e.platform.stackLimits (T.setVm s.vm).me = e.platform.stackLimits s.me := X.limits
  have hb9 : (T.setVm s.vm).me.stackBytes = s.me.stackBytes := X.bytes
  refine ⟨X.admits, X.cas, X.clock, hF, ?_, X.hears, X.method, X.code, X.here, X.tail, X.warmed, ?_, ?_, ?_⟩
  · have h := X.room
    have hU : ((T.setVm s.vm).setFrames (.invoking m args :: below)).localsInUse = s.localsInUse := by
      rw [State.localsInUse_invoking hF (meth := meth) (c := c) X.method X.code, State.localsInUse_invoking X.frames X.method X.code]
    simp only [State.hasRoom, Bool.and_eq_true, decide_eq_true_eq] at h ⊢
    obtain ⟨⟨⟨⟨h1, h2, h3, h4, h5, h6⟩, h7⟩, h8⟩, h9⟩ := h
    rw [X.frames, List.length_cons] at h2 h3
    have q1 := X.heapSize
    have q2 := X.used
    simp only [hF, hU, List.length_cons, State.stackLimits_setFrames, State.stackBytes_setFrames, hl9, hb9]
    refine ⟨⟨⟨⟨by omega, by omega, by omega, by omega, by omega, h6⟩, ?_⟩, ?_⟩, X.book⟩
    · show T.heap.size + R'.cells ≤ e.platform.maxCells
      omega
    · show T.slotsUsed + R'.slots ≤ e.platform.maxSlots
      omega
  · rw [State.stackLimits_setFrames]; rfl
  · rw [State.stackBytes_setFrames]; rfl
  · refine ⟨?_, Nat.le_refl _, Nat.le_refl _, ?_, ?_, fun a c9 h9 => ⟨c9, h9, rfl, rfl, fun _ _ => rfl⟩⟩
    · obtain ⟨t, ht, -⟩ := State.frames_cons hr
      show T.setVm s.vm = { ((T.setVm s.vm).setFrames (.invoking m args :: below)).setFrames (T.setVm s.vm).frames with heap := T.heap, slotsUsed := T.slotsUsed }
      rw [State.setFrames_setFrames, State.setFrames_self ht]
      rfl
    · show T.slotsUsed = T.slotsUsed + ((T.heap.toList.drop T.heap.size).map (·.slots.size)).sum
      rw [List.drop_eq_nil_of_le (Nat.le_of_eq Array.length_toList)]
      rfl
    · show ((T.heap.toList.drop T.heap.size).map (·.slots.size)).sum ≤ 0
      rw [List.drop_eq_nil_of_le (Nat.le_of_eq Array.length_toList)]
      exact Nat.le_refl _
/-- 'throw new E()': new; dup; invokespecial; athrow -/
theorem vx_throw0 {cc : ByteArray} {pc : Nat} (hexec : p.tables.exec = Jvm.exec) (hb : c.code = cc) (hl : l.stackTraces = false) {own cls : String} {names : List String} {ik ic mc ms : Nat} {A : Nat → Prop}
    (hown : s.vm.findClass own = some m.cls) (hcls : Bundle.fit cls = true) (hnames : ∀ n ∈ names, Bundle.fit n = true)
    (hk : (Cond.classLink own ik cls).before args s = true) (hini : (Cond.initialized cls).before args s = true) (hat : ∀ w ∈ vx_at0 own ic cls names, w.before args s = true)
    (hgood : ∀ w ∈ Cond.classLink own ik cls :: Cond.initialized cls :: vx_at0 own ic cls names, vx_ot w = true)
    (hU : vx_Zq Bundle.tN "UNASSIGNED_STACK" Bundle.steD A s s.heap) (hN : vx_Zq Bundle.tN "SUPPRESSED_SENTINEL" Bundle.listD A s s.heap) (hS : va_S A s.heap H locs) (hsize : ls.size = c.maxLocals)
    (d0 : decode cc pc = .ok (.new ik, 3)) (d3 : decode cc (pc + 3) = .ok (.dup, 1)) (d4 : decode cc (pc + 4) = .ok (.invokespecial ic, 3)) (d7 : decode cc (pc + 7) = .ok (.athrow, 1))
    (hout : ∀ x ∈ c.exceptionTable.toList, covers x (pc + 7) = false)
    (hRframes : names.length + 3 < R.frames) (hRlocals : (rest.map fun v => v.category).sum + (13 * (names.length + 1) + 42) ≤ R.locals) (hRcells : cells + 1 ≤ R.cells) (hRslots : slots + 6 ≤ R.slots) (hlocks : meth.locks = false)
    (hx : ∀ t : State, s.vm.Alike t.vm → H.size ≤ t.heap.size → (∀ q : Nat, q < H.size → t.heap[q]? = H[q]?) → XC cls s t)
    (hf : ∀ z ∈ locs, free z.base) (hc : cells + 1 ≤ mc) (hs : slots + 6 ≤ ms) :
    W p l e R s m args below meth c H locs cells slots (vx_MQ below Qc XC args s mc ms free) (F0 m pc ls rest) := by
  intro T hT X
  have htr : e.platform.stackTraces = false := (show e.platform.stackTraces = l.stackTraces by rw [X.admits.platform]).trans hl
  have Y := vx_rebase X (R' := { frames := R.frames, locals := R.locals, cells := 1, slots := 6 }) (Nat.le_refl _) (Nat.le_refl _) hRcells hRslots
  obtain ⟨s', hA⟩ : ∃ z, z = (T.setVm s.vm).setFrames (.invoking m args :: below) := ⟨_, rfl⟩
  rw [← hA] at Y
  have hvm : s'.vm = s.vm := by rw [hA]; rfl
  have hhp : s'.heap = H := by rw [hA]; exact hT
  have hW0 : s.WarmedH s'.vm := by rw [hvm]; exact State.WarmedH.refl s
  have hat' : ∀ w ∈ vx_at0 own ic cls names, w.before args s' = true := fun w hw => vx_ot_at hW0 hvm.symm (hgood w (List.mem_cons_of_mem _ (List.mem_cons_of_mem _ hw))) (hat w hw)
  have hk' : (Cond.classLink own ik cls).before args s' = true := vx_ot_at hW0 hvm.symm (hgood _ List.mem_cons_self) hk
  have hini' : (Cond.initialized cls).before args s' = true := vx_ot_at hW0 hvm.symm (hgood _ (List.mem_cons_of_mem _ List.mem_cons_self)) hini
  have hU' : vx_Zq Bundle.tN "UNASSIGNED_STACK" Bundle.steD A s' s'.heap := by rw [hhp]; exact vx_Zq.moved hW0.alike (hU.kept hS.2.1)
  have hN' : vx_Zq Bundle.tN "SUPPRESSED_SENTINEL" Bundle.listD A s' s'.heap := by rw [hhp]; exact vx_Zq.moved hW0.alike (hN.kept hS.2.1)
  have h : ∀ w ∈ Bundle.ownAtoms0 own ic cls names, w.before args s' = true := vx_own hat' (vx_isRefq hU'.1) (vx_isRefq hN'.1) hU'.2.word hN'.2.word
  have hown' : s'.vm.findClass own = some m.cls := by rw [hvm]; exact hown
  have hins : (Cond.instantiable cls 6).before args s' = true := h _ (by simp [Bundle.ownAtoms0])
  obtain ⟨vm₁, cX, kX, hfX, hkX, -, -, X₁, st1⟩ := Y.newCold hexec (own := own) (C := cls) (index := ik) (n := 6) hown' hk' hins hini'
    (g := F0 m pc ls rest) rfl (by rw [hb]; exact d0) (Nat.le_refl _) (Nat.le_refl _)
  generalize hT1 : (T.setVm vm₁).pushCell { cls := cX, slots := kX.instanceTypes.map defaultValue, vm := .none } = T1 at X₁ st1
  have hcat : (Value.ref T.heap.size).category = 1 := rfl
  have hcellA : T1.heap[T.heap.size]? = some (freshCell cX kX) := by rw [← hT1]; exact State.heap_pushCell_size _ _
  have d3' : decode c.code (pc + 3) = .ok (.dup, 1) := by rw [hb]; exact d3
  obtain ⟨U, hsteps, hrun, hend, hW, hsame, ce, hce, hO⟩ := X₁.ctorThrow0 hexec htr (own := own) (cls := cls) (names := names) (ic := ic) hown' hcls hnames h (fun x hx => nomatch hx) hfX hkX hcellA (by rw [hhp, hT]; exact Nat.le_refl _)
    (g := { method := m, pc := pc + 4, locals := ls, stack := .ref T.heap.size :: .ref T.heap.size :: rest, locked := none }) rfl hsize rfl rfl (rest := rest) rfl
    (by rw [hb]; exact d4) (by rw [hb]; exact d7) hout hRframes (by simp only [List.map_cons, List.sum_cons, hcat]; omega) hlocks
  obtain ⟨f1, f2⟩ := vx_frame hsame
  rw [hhp] at f1 f2
  have hWs : s.WarmedH U.vm := State.WarmedH.trans hW0 hW
  have hcl : s.vm.findClass cls = some ce.cls := by
    have h9 := hO.cls
    rw [hvm] at h9
    exact h9
  have hall : s.sameButNew ({ U with vm := s.vm } : State) locs mc ms := by
    subst hA
    obtain ⟨e1, e2⟩ := hsame
    rw [State.setFrames_setFrames] at e1
    have h2 : (T.setVm s.vm).sameButNew ({ U with vm := s.vm } : State) [] (0 + 1) (0 + 6) := ⟨e1, e2⟩
    have h3 := X.same.trans h2
    rw [List.append_nil] at h3
    exact h3.mono hc hs
  refine ⟨U, ?_, .threw T.heap.size, hrun, hend, Or.inr ⟨T.heap.size, rfl, cls, ce, locs, hx U hWs.alike f1 (fun q hq => f2 q hq (fun z hz => nomatch hz)), hce, hO.vm, hcl, hWs, hall, hf⟩⟩
  refine st1 _ ?_
  show Steps p.tables e below (T1.setTop { method := m, pc := pc + 3, locals := ls, stack := .ref T.heap.size :: rest, locked := none }) _
  jvm_step X₁.here [X₁.here.top, hexec, d3', Value.category]
  exact hsteps
/-- 'throw new E("text")': new; dup; ldc; invokespecial; athrow -/
theorem vx_throwS {cc : ByteArray} {pc : Nat} (hexec : p.tables.exec = Jvm.exec) (hb : c.code = cc) (hl : l.stackTraces = false) {own cls text : String} {names : List String} {ik is ic mc ms sa : Nat} {A : Nat → Prop}
    (hown : s.vm.findClass own = some m.cls) (hcls : Bundle.fit cls = true) (hnames : ∀ n ∈ names, Bundle.fit n = true)
    (hk : (Cond.classLink own ik cls).before args s = true) (hini : (Cond.initialized cls).before args s = true) (hstr : vk_R own is text sa s) (hat : ∀ w ∈ vx_atS own ic cls names, w.before args s = true)
    (hgood : ∀ w ∈ Cond.classLink own ik cls :: Cond.initialized cls :: vx_atS own ic cls names, vx_ot w = true)
    (hU : vx_Zq Bundle.tN "UNASSIGNED_STACK" Bundle.steD A s s.heap) (hN : vx_Zq Bundle.tN "SUPPRESSED_SENTINEL" Bundle.listD A s s.heap) (hS : va_S A s.heap H locs) (hsize : ls.size = c.maxLocals)
    (d0 : decode cc pc = .ok (.new ik, 3)) (d3 : decode cc (pc + 3) = .ok (.dup, 1)) (d4 : decode cc (pc + 4) = .ok (.ldc is, 2)) (d6 : decode cc (pc + 6) = .ok (.invokespecial ic, 3)) (d9 : decode cc (pc + 9) = .ok (.athrow, 1))
    (hout : ∀ x ∈ c.exceptionTable.toList, covers x (pc + 9) = false)
    (hRframes : names.length + 3 < R.frames) (hRlocals : (rest.map fun v => v.category).sum + (13 * (names.length + 1) + 43) ≤ R.locals) (hRcells : cells + 1 ≤ R.cells) (hRslots : slots + 6 ≤ R.slots) (hlocks : meth.locks = false)
    (hx : ∀ t : State, s.vm.Alike t.vm → H.size ≤ t.heap.size → (∀ q : Nat, q < H.size → t.heap[q]? = H[q]?) → XC cls s t)
    (hf : ∀ z ∈ locs, free z.base) (hc : cells + 1 ≤ mc) (hs : slots + 6 ≤ ms) :
    W p l e R s m args below meth c H locs cells slots (vx_MQ below Qc XC args s mc ms free) (F0 m pc ls rest) := by
  intro T hT X
  have htr : e.platform.stackTraces = false := (show e.platform.stackTraces = l.stackTraces by rw [X.admits.platform]).trans hl
  have Y := vx_rebase X (R' := { frames := R.frames, locals := R.locals, cells := 1, slots := 6 }) (Nat.le_refl _) (Nat.le_refl _) hRcells hRslots
  obtain ⟨s', hA⟩ : ∃ z, z = (T.setVm s.vm).setFrames (.invoking m args :: below) := ⟨_, rfl⟩
  rw [← hA] at Y
  have hvm : s'.vm = s.vm := by rw [hA]; rfl
  have hhp : s'.heap = H := by rw [hA]; exact hT
  have hW0 : s.WarmedH s'.vm := by rw [hvm]; exact State.WarmedH.refl s
  have hat' : ∀ w ∈ vx_atS own ic cls names, w.before args s' = true := fun w hw => vx_ot_at hW0 hvm.symm (hgood w (List.mem_cons_of_mem _ (List.mem_cons_of_mem _ hw))) (hat w hw)
  have hk' : (Cond.classLink own ik cls).before args s' = true := vx_ot_at hW0 hvm.symm (hgood _ List.mem_cons_self) hk
  have hini' : (Cond.initialized cls).before args s' = true := vx_ot_at hW0 hvm.symm (hgood _ (List.mem_cons_of_mem _ List.mem_cons_self)) hini
  have hU' : vx_Zq Bundle.tN "UNASSIGNED_STACK" Bundle.steD A s' s'.heap := by rw [hhp]; exact vx_Zq.moved hW0.alike (hU.kept hS.2.1)
  have hN' : vx_Zq Bundle.tN "SUPPRESSED_SENTINEL" Bundle.listD A s' s'.heap := by rw [hhp]; exact vx_Zq.moved hW0.alike (hN.kept hS.2.1)
  have h : ∀ w ∈ Bundle.ownAtoms own ic cls names, w.before args s' = true := vx_own hat' (vx_isRefq hU'.1) (vx_isRefq hN'.1) hU'.2.word hN'.2.word
  have hown' : s'.vm.findClass own = some m.cls := by rw [hvm]; exact hown
  have hins : (Cond.instantiable cls 6).before args s' = true := h _ (by simp [Bundle.ownAtoms])
  obtain ⟨vm₁, cX, kX, hfX, hkX, -, -, X₁, st1⟩ := Y.newCold hexec (own := own) (C := cls) (index := ik) (n := 6) hown' hk' hins hini'
    (g := F0 m pc ls rest) rfl (by rw [hb]; exact d0) (Nat.le_refl _) (Nat.le_refl _)
  generalize hT1 : (T.setVm vm₁).pushCell { cls := cX, slots := kX.instanceTypes.map defaultValue, vm := .none } = T1 at X₁ st1
  have hcat : (Value.ref T.heap.size).category = 1 := rfl
  have hcellA : T1.heap[T.heap.size]? = some (freshCell cX kX) := by rw [← hT1]; exact State.heap_pushCell_size _ _
  have d3' : decode c.code (pc + 3) = .ok (.dup, 1) := by rw [hb]; exact d3
  have d4' : decode c.code (pc + 4) = .ok (.ldc is, 2) := by rw [hb]; exact d4
  have hstr' : vk_R own is text sa s' := vk_R.warm hW0 hstr
  obtain ⟨U, hsteps, hrun, hend, hW, hsame, ce, hce, hO⟩ := X₁.ctorThrowS hexec htr (own := own) (cls := cls) (names := names) (ic := ic) hown' hcls hnames h (fun x hx => nomatch hx) hfX hkX hcellA (by rw [hhp, hT]; exact Nat.le_refl _) (msg := .ref sa) rfl
    (g := { method := m, pc := pc + 6, locals := ls, stack := .ref sa :: .ref T.heap.size :: .ref T.heap.size :: rest, locked := none }) rfl hsize rfl rfl (rest := rest) rfl
    (by rw [hb]; exact d6) (by rw [hb]; exact d9) hout hRframes (by simp only [List.map_cons, List.sum_cons, hcat]; omega) hlocks
  obtain ⟨f1, f2⟩ := vx_frame hsame
  rw [hhp] at f1 f2
  have hWs : s.WarmedH U.vm := State.WarmedH.trans hW0 hW
  have hcl : s.vm.findClass cls = some ce.cls := by
    have h9 := hO.cls
    rw [hvm] at h9
    exact h9
  have hall : s.sameButNew ({ U with vm := s.vm } : State) locs mc ms := by
    subst hA
    obtain ⟨e1, e2⟩ := hsame
    rw [State.setFrames_setFrames] at e1
    have h2 : (T.setVm s.vm).sameButNew ({ U with vm := s.vm } : State) [] (0 + 1) (0 + 6) := ⟨e1, e2⟩
    have h3 := X.same.trans h2
    rw [List.append_nil] at h3
    exact h3.mono hc hs
  refine ⟨U, ?_, .threw T.heap.size, hrun, hend, Or.inr ⟨T.heap.size, rfl, cls, ce, locs, hx U hWs.alike f1 (fun q hq => f2 q hq (fun z hz => nomatch hz)), hce, hO.vm, hcl, hWs, hall, hf⟩⟩
  refine st1 _ ?_
  show Steps p.tables e below (T1.setTop { method := m, pc := pc + 3, locals := ls, stack := .ref T.heap.size :: rest, locked := none }) _
  jvm_step X₁.here [X₁.here.top, hexec, d3', Value.category]
  exact X₁.ldcString hexec (own := own) (text := text) (index := is) (a := sa) hown' hstr'.1 hstr'.2
    (g := { method := m, pc := pc + 4, locals := ls, stack := .ref T.heap.size :: .ref T.heap.size :: rest, locked := none }) rfl d4' _ hsteps
/-- 'throw new E("text")', the text by a wide index -/
theorem vx_throwSW {cc : ByteArray} {pc : Nat} (hexec : p.tables.exec = Jvm.exec) (hb : c.code = cc) (hl : l.stackTraces = false) {own cls text : String} {names : List String} {ik is ic mc ms sa : Nat} {A : Nat → Prop}
    (hown : s.vm.findClass own = some m.cls) (hcls : Bundle.fit cls = true) (hnames : ∀ n ∈ names, Bundle.fit n = true)
    (hk : (Cond.classLink own ik cls).before args s = true) (hini : (Cond.initialized cls).before args s = true) (hstr : vk_R own is text sa s) (hat : ∀ w ∈ vx_atS own ic cls names, w.before args s = true)
    (hgood : ∀ w ∈ Cond.classLink own ik cls :: Cond.initialized cls :: vx_atS own ic cls names, vx_ot w = true)
    (hU : vx_Zq Bundle.tN "UNASSIGNED_STACK" Bundle.steD A s s.heap) (hN : vx_Zq Bundle.tN "SUPPRESSED_SENTINEL" Bundle.listD A s s.heap) (hS : va_S A s.heap H locs) (hsize : ls.size = c.maxLocals)
    (d0 : decode cc pc = .ok (.new ik, 3)) (d3 : decode cc (pc + 3) = .ok (.dup, 1)) (d4 : decode cc (pc + 4) = .ok (.ldc_w is, 3)) (d7 : decode cc (pc + 7) = .ok (.invokespecial ic, 3)) (d10 : decode cc (pc + 10) = .ok (.athrow, 1))
    (hout : ∀ x ∈ c.exceptionTable.toList, covers x (pc + 10) = false)
    (hRframes : names.length + 3 < R.frames) (hRlocals : (rest.map fun v => v.category).sum + (13 * (names.length + 1) + 43) ≤ R.locals) (hRcells : cells + 1 ≤ R.cells) (hRslots : slots + 6 ≤ R.slots) (hlocks : meth.locks = false)
    (hx : ∀ t : State, s.vm.Alike t.vm → H.size ≤ t.heap.size → (∀ q : Nat, q < H.size → t.heap[q]? = H[q]?) → XC cls s t)
    (hf : ∀ z ∈ locs, free z.base) (hc : cells + 1 ≤ mc) (hs : slots + 6 ≤ ms) :
    W p l e R s m args below meth c H locs cells slots (vx_MQ below Qc XC args s mc ms free) (F0 m pc ls rest) := by
  intro T hT X
  have htr : e.platform.stackTraces = false := (show e.platform.stackTraces = l.stackTraces by rw [X.admits.platform]).trans hl
  have Y := vx_rebase X (R' := { frames := R.frames, locals := R.locals, cells := 1, slots := 6 }) (Nat.le_refl _) (Nat.le_refl _) hRcells hRslots
  obtain ⟨s', hA⟩ : ∃ z, z = (T.setVm s.vm).setFrames (.invoking m args :: below) := ⟨_, rfl⟩
  rw [← hA] at Y
  have hvm : s'.vm = s.vm := by rw [hA]; rfl
  have hhp : s'.heap = H := by rw [hA]; exact hT
  have hW0 : s.WarmedH s'.vm := by rw [hvm]; exact State.WarmedH.refl s
  have hat' : ∀ w ∈ vx_atS own ic cls names, w.before args s' = true := fun w hw => vx_ot_at hW0 hvm.symm (hgood w (List.mem_cons_of_mem _ (List.mem_cons_of_mem _ hw))) (hat w hw)
  have hk' : (Cond.classLink own ik cls).before args s' = true := vx_ot_at hW0 hvm.symm (hgood _ List.mem_cons_self) hk
  have hini' : (Cond.initialized cls).before args s' = true := vx_ot_at hW0 hvm.symm (hgood _ (List.mem_cons_of_mem _ List.mem_cons_self)) hini
  have hU' : vx_Zq Bundle.tN "UNASSIGNED_STACK" Bundle.steD A s' s'.heap := by rw [hhp]; exact vx_Zq.moved hW0.alike (hU.kept hS.2.1)
  have hN' : vx_Zq Bundle.tN "SUPPRESSED_SENTINEL" Bundle.listD A s' s'.heap := by rw [hhp]; exact vx_Zq.moved hW0.alike (hN.kept hS.2.1)
  have h : ∀ w ∈ Bundle.ownAtoms own ic cls names, w.before args s' = true := vx_own hat' (vx_isRefq hU'.1) (vx_isRefq hN'.1) hU'.2.word hN'.2.word
  have hown' : s'.vm.findClass own = some m.cls := by rw [hvm]; exact hown
  have hins : (Cond.instantiable cls 6).before args s' = true := h _ (by simp [Bundle.ownAtoms])
  obtain ⟨vm₁, cX, kX, hfX, hkX, -, -, X₁, st1⟩ := Y.newCold hexec (own := own) (C := cls) (index := ik) (n := 6) hown' hk' hins hini'
    (g := F0 m pc ls rest) rfl (by rw [hb]; exact d0) (Nat.le_refl _) (Nat.le_refl _)
  generalize hT1 : (T.setVm vm₁).pushCell { cls := cX, slots := kX.instanceTypes.map defaultValue, vm := .none } = T1 at X₁ st1
  have hcat : (Value.ref T.heap.size).category = 1 := rfl
  have hcellA : T1.heap[T.heap.size]? = some (freshCell cX kX) := by rw [← hT1]; exact State.heap_pushCell_size _ _
  have d3' : decode c.code (pc + 3) = .ok (.dup, 1) := by rw [hb]; exact d3
  have d4' : decode c.code (pc + 4) = .ok (.ldc_w is, 3) := by rw [hb]; exact d4
  have hstr' : vk_R own is text sa s' := vk_R.warm hW0 hstr
  obtain ⟨U, hsteps, hrun, hend, hW, hsame, ce, hce, hO⟩ := X₁.ctorThrowS hexec htr (own := own) (cls := cls) (names := names) (ic := ic) hown' hcls hnames h (fun x hx => nomatch hx) hfX hkX hcellA (by rw [hhp, hT]; exact Nat.le_refl _) (msg := .ref sa) rfl
    (g := { method := m, pc := pc + 7, locals := ls, stack := .ref sa :: .ref T.heap.size :: .ref T.heap.size :: rest, locked := none }) rfl hsize rfl rfl (rest := rest) rfl
    (by rw [hb]; exact d7) (by rw [hb]; exact d10) hout hRframes (by simp only [List.map_cons, List.sum_cons, hcat]; omega) hlocks
  obtain ⟨f1, f2⟩ := vx_frame hsame
  rw [hhp] at f1 f2
  have hWs : s.WarmedH U.vm := State.WarmedH.trans hW0 hW
  have hcl : s.vm.findClass cls = some ce.cls := by
    have h9 := hO.cls
    rw [hvm] at h9
    exact h9
  have hall : s.sameButNew ({ U with vm := s.vm } : State) locs mc ms := by
    subst hA
    obtain ⟨e1, e2⟩ := hsame
    rw [State.setFrames_setFrames] at e1
    have h2 : (T.setVm s.vm).sameButNew ({ U with vm := s.vm } : State) [] (0 + 1) (0 + 6) := ⟨e1, e2⟩
    have h3 := X.same.trans h2
    rw [List.append_nil] at h3
    exact h3.mono hc hs
  refine ⟨U, ?_, .threw T.heap.size, hrun, hend, Or.inr ⟨T.heap.size, rfl, cls, ce, locs, hx U hWs.alike f1 (fun q hq => f2 q hq (fun z hz => nomatch hz)), hce, hO.vm, hcl, hWs, hall, hf⟩⟩
  refine st1 _ ?_
  show Steps p.tables e below (T1.setTop { method := m, pc := pc + 3, locals := ls, stack := .ref T.heap.size :: rest, locked := none }) _
  jvm_step X₁.here [X₁.here.top, hexec, d3', Value.category]
  exact X₁.ldcStringW hexec (own := own) (text := text) (index := is) (a := sa) hown' hstr'.1 hstr'.2
    (g := { method := m, pc := pc + 4, locals := ls, stack := .ref T.heap.size :: .ref T.heap.size :: rest, locked := none }) rfl d4' _ hsteps
end Ends
section Bodies
variable {l : Launch}
theorem vx_ofW {y : MethodName} {ws ws' : List Cond} {rm : Room} {Pc : Array Value → State → Prop} {Qc : Array Value → State → Outcome → State → Prop} {XC : String → State → State → Prop} {mc ms : Nat} {free : Addr → Prop} {cc : ByteArray} {maxL : Nat} {ret : Option FieldType}
    (hy : plainName y.cls = true) (hw : ws = Cond.code y cc maxL ret :: ws')
    (body : ∀ p e s m args below meth c s₁, BodyLoose p l y (headSpec ws rm) cc maxL ret e s m args below meth c s₁ → c.maxLocals = maxL → (∀ x ∈ c.exceptionTable.toList, False) → Pc args s →
      W p l e (headSpec ws rm).room s m args below meth c s.heap [] 0 0 (vx_MQ below Qc XC args s mc ms free) (entryFrame m args maxL)) : vx_Met l y ws rm Pc Qc XC mc ms free := by
  refine MetFree.of_bodyS (code := cc) (maxLocals := maxL) (ret := ret) hy ?_ ?_
  · intro args s m h hn
    obtain ⟨meth, c, h1, h2, h3, h4, h5, h6, -, -⟩ := Cond.code_spec hn (atoms_spec (ws := ws) h _ (by rw [hw]; exact List.mem_cons_self))
    exact ⟨meth, c, h1, h2, h3, h4, h5, h6⟩
  · intro p e s m args below meth c s₁ B hml hP _
    have hh0 : s₁.heap = s.heap := by rw [B.state]; rfl
    have ht : ∀ x ∈ c.exceptionTable.toList, False := by
      obtain ⟨meth9, c9, h1, h2, -, -, -, -, h7, -⟩ := Cond.code_spec B.named (atoms_spec (ws := ws) B.pre _ (by rw [hw]; exact List.mem_cons_self))
      cases Option.some.inj (h1.symm.trans B.method)
      cases Option.some.inj (h2.symm.trans (Stand.of_body B).code)
      intro x hx
      rw [Array.isEmpty_iff.mp h7] at hx
      cases hx
    obtain ⟨t, a1, o, b1, b2, b3⟩ := body p e s m args below meth c s₁ B hml ht hP s₁ hh0 (Stand.of_body B)
    exact ⟨t, o, a1, b1, b2, b3⟩
/-- the table of a body with handlers -/
theorem vx_table {p : Program} {x y : MethodName} {S : Spec} {cc bytes : ByteArray} {maxL maxL' : Nat} {ret ret' : Option FieldType} {e : Env} {s s₁ : State} {m : MethodId} {args : Array Value} {below : List Frame} {meth : Method} {c : Code} {hh : List (Nat × Nat × Nat × Nat)}
    (B : BodyLoose p l y S cc maxL ret e s m args below meth c s₁) (h : (Cond.codeWith y bytes maxL' ret' hh).before args s = true) : c.exceptionTable.toList = tableOf hh := by
  obtain ⟨m9, meth9, c9, hn9, h1, h2, -, -, h6, -⟩ := Cond.codeWith_spec h
  cases Option.some.inj (hn9.symm.trans B.named)
  cases Option.some.inj (h1.symm.trans B.method)
  cases Option.some.inj (h2.symm.trans (Stand.of_body B).code)
  rw [← h6, table_eq]
end Bodies
end VXA
/-! ===== END ===== -/
/-! ===== BEGIN a static call of a method with an exception table ===== -/
section VXS
variable {p : Program} {l : Launch} {e : Env} {R : Room} {s : State} {m : MethodId} {args : Array Value} {below : List Frame} {meth : Method} {c : Code} {T : State} {H : Heap} {locs : List Loc} {cells slots : Nat}
abbrev vx_CSW (R : Room) (s : State) (args : Array Value) (own : String) (index : Nat) (y : MethodName) (bytes : ByteArray) (maxL : Nat) (ret : Option FieldType) (hh : List (Nat × Nat × Nat × Nat)) (ws : List Cond) (rm : Room) (mc ms n : Nat) : Prop :=
  (rm.cells = mc ∧ rm.slots = ms ∧ rm.frames + 1 ≤ R.frames ∧ 8 + (maxL + 11) + rm.locals ≤ R.locals ∧ (∀ w ∈ ws, ∀ (a' : Array Value) (U : State), s.WarmedH U.vm → w.before a' U = true) ∧ Cond.codeWith y bytes maxL ret hh ∈ ws) ∧
  (Cond.codeWith y bytes maxL ret hh).before args s = true ∧ (Cond.initialized y.cls).before args s = true ∧ (y.cls ≠ "java/lang/invoke/MethodHandle" ∧ y.cls ≠ "java/lang/invoke/VarHandle") ∧
  (∀ sig, parseMethodDescriptor y.desc = some sig → n = sig.parameters.length) ∧ (Cond.methodLink own index y).before args s = true ∧ (Cond.static y).before args s = true
theorem vx_cwSW {own : String} {index maxL mc ms : Nat} {y : MethodName} {bytes : ByteArray} {ret : Option FieldType} {hh : List (Nat × Nat × Nat × Nat)} {Ts ws ws' : List Cond} {rm : Room} (n : Nat) (ht : ∀ w ∈ Ts, w.before args s = true) (hT : GoodIn Ts (va_wsS own index y ws)) (hw : ws = Cond.codeWith y bytes maxL ret hh :: ws') (hrc : rm.cells = mc) (hrs : rm.slots = ms)
    (hd : y.cls ≠ "java/lang/invoke/MethodHandle" ∧ y.cls ≠ "java/lang/invoke/VarHandle" ∧ (parseMethodDescriptor y.desc).map (fun d => d.parameters.length) = some n) (hR : rm.frames + 1 ≤ R.frames ∧ 8 + (maxL + 11) + rm.locals ≤ R.locals) :
    vx_CSW R s args own index y bytes maxL ret hh ws rm mc ms n := by
  have ok : ∀ w ∈ va_wsS own index y ws, w.before args s = true := fun w h => ht w (hT w h).1
  have hG : GoodIn Ts ws := fun w h => hT w (by unfold va_wsS; exact List.mem_append_right _ h)
  have hc : Cond.codeWith y bytes maxL ret hh ∈ ws := by rw [hw]; exact List.mem_cons_self
  refine ⟨⟨hrc, hrs, hR.1, hR.2, pay_in ht hG, hc⟩, ht _ (hG _ hc).1, ok _ (by simp [va_wsS]), ⟨hd.1, hd.2.1⟩, fun sig h => ?_, ok _ (by simp [va_wsS]), ok _ (by simp [va_wsS])⟩
  have h2 := hd.2.2
  rw [h] at h2
  exact (Option.some.inj h2).symm
theorem vx_callSW (X : Stand p l e R s m args below meth c T locs cells slots) (hexec : p.tables.exec = Jvm.exec) {own : String} {index : Nat} {y : MethodName} {bytes : ByteArray} {maxL : Nat} {ret : Option FieldType} {hh : List (Nat × Nat × Nat × Nat)}
    (hown : s.vm.findClass own = some m.cls) (hlink : (Cond.methodLink own index y).before args s = true) (hstat : (Cond.static y).before args s = true) (hinit : (Cond.initialized y.cls).before args s = true)
    (hcode : (Cond.codeWith y bytes maxL ret hh).before args s = true) (hy : y.cls ≠ "java/lang/invoke/MethodHandle" ∧ y.cls ≠ "java/lang/invoke/VarHandle")
    {W9 : Nat} {Pre : Pt → Array Value → Prop} {Post : Pt → Array Value → Option Value → Pt → Prop} (hK : Back l R p e below s args y 3 W9 Pre Post)
    {g : JFrame} (hg : g.method = m) (hsize : g.locals.size = c.maxLocals) {argsL rest : List Value} (hlen : ∀ sig, parseMethodDescriptor y.desc = some sig → argsL.length = sig.parameters.length)
    (hstack : g.stack = argsL.reverse ++ rest) (hW : 2 * g.monitorRoom + (rest.map fun v => v.category).sum ≤ W9) (hdg : decode c.code g.pc = .ok (.invokestatic index, 3))
    (hpre : ∀ vm₁, s.WarmedH vm₁ → Pre ⟨T.setVm vm₁, locs, cells, slots⟩ argsL.toArray) :
    ∃ (v : Option Value) (vm₁ : Vm) (B : Pt), s.WarmedH vm₁ ∧ Stand p l e R s m args below meth c B.U B.locs B.cells B.slots ∧ Post ⟨T.setVm vm₁, locs, cells, slots⟩ argsL.toArray v B ∧
      ∀ target, Steps p.tables e below (B.U.setTop { g with pc := g.pc + 3, stack := v.toList ++ rest }) target → Steps p.tables e below (T.setTop g) target := by
  obtain ⟨mk, methM, cM, hnamed, hmethM, -, -, -, -, -, -, hsigM⟩ := Cond.codeWith_spec hcode
  have hstatic : methM.isStatic = true := Cond.static_spec hnamed hmethM hstat
  obtain ⟨kP, hkP, -⟩ := className_of_methodNamed hnamed
  have hinitP : kP.init = .initialized := Cond.initialized_spec (findClass_of_methodNamed hnamed) hkP hinit
  obtain ⟨vm₁, X₁, hstep₁⟩ := X.invokestatic hexec hown hlink hnamed hmethM hstatic hkP hinitP hy (g := g) hg (argsL := argsL) (rest := rest) (hlen _ hsigM) hstack hdg
  obtain ⟨v, B, X', hpost, hsteps⟩ := hK m meth c ⟨T.setVm vm₁, locs, cells, slots⟩ { g with stack := rest } (.invokestatic index) mk argsL.toArray X₁ hg hsize hdg hW (X₁.named hnamed) (hpre vm₁ X₁.warmed)
  exact ⟨v, vm₁, B, X₁.warmed, X', hpost, fun target h => hstep₁ _ fun acts => by rw [doInvoke_state]; exact hsteps.trans h⟩
theorem vx_runSW {y : MethodName} {bytes cc : ByteArray} {maxL nL mc ms n index : Nat} {ret : Option FieldType} {hh : List (Nat × Nat × Nat × Nat)} {ws : List Cond} {rm : Room} {Pc : Array Value → State → Prop} {Qc : Array Value → State → Outcome → State → Prop} {free : Addr → Prop} {Ts : List Cond} {own : String} {As rest : List Value} {g : JFrame}
    (S : CallFix p m c cc nL s args Ts own) (hM : Met l y ws rm Pc Qc mc ms free) (cw : vx_CSW R s args own index y bytes maxL ret hh ws rm mc ms n) (hp : PreS s H Pc As)
    (hg : g.method = m) (hn : As.length = n) (hsize : g.locals.size = nL) (hstack : g.stack = As.reverse ++ rest) (hW : 2 * g.monitorRoom + (rest.map fun v => v.category).sum ≤ 8) (hdg : decode cc g.pc = .ok (.invokestatic index, 3)) (hf : cells + mc ≤ R.cells ∧ slots + ms ≤ R.slots) :
    va_Run p l e R s m args below meth c H locs cells slots mc ms g rest (Qc As.toArray) (free) := by
  obtain ⟨⟨hrc, hrs, hfr, hlo, hws, hcw⟩, hcode, hini, hy, hlen, hl, hstt⟩ := cw
  have hK : Back l R p e below s args y 3 8 (PreOf R mc ms Pc) (PostOf Qc mc ms free) := va_backW (hh := hh) (bytes := bytes) (maxL := maxL) (ret := ret) hM hp.1 hrc hrs hfr hlo hws hcw (fun a' U hW => word_at hW (Or.inl (by first | rfl | simp [Cond.onTables, Cond.keeps, Cond.steady])) hini)
  obtain ⟨hx, hb, hml, ho, -⟩ := S
  intro T hT X
  obtain ⟨v, vm₁, ⟨U', l2, c2, s2⟩, hW₁, X', ⟨g', mk, t, L, e1, e2, hq, h1, hL, h2, h3⟩, st⟩ := vx_callSW X hx (hh := hh) (bytes := bytes) (maxL := maxL) (ret := ret) ho hl hstt hini hcode hy hK hg (hsize.trans hml.symm) (argsL := As) (rest := rest) (fun sig h => hn.trans (hlen sig h)) hstack hW (by rw [hb]; exact hdg)
    (fun vm₁ hW₁ => ⟨hf.1, hf.2, hp.2 (T.setVm vm₁) hT hW₁⟩)
  dsimp only [Pt.U, Pt.locs, Pt.cells, Pt.slots] at X' e1 e2 h1 h2 h3 st
  subst h1; subst h2; subst h3
  exact ⟨v, (T.setVm vm₁).calling g' mk As.toArray, t, U', L, hT, X', hL, e1, e2, hq, st⟩
/-- not caught here, past rows that name other classes: it goes on to the caller -/
theorem vx_outP {p : Program} {l : Launch} {e : Env} {R : Room} {s : State} {m : MethodId} {args : Array Value} {below : List Frame} {meth : Method} {c : Code} {H : Heap} {locs : List Loc} {cells slots : Nat} {free : Addr → Prop} {ls : Array Slot} {rest : List Value} {Qc : Array Value → State → Outcome → State → Prop} {XC : String → State → State → Prop}
    {pc : Nat} {own E : String} {ce : Cell} {q : Addr} {mc ms : Nat} (hown : s.vm.findClass own = some m.cls) (hlocks : meth.locks = false)
    (hpass : ∀ z ∈ c.exceptionTable.toList, covers z pc = false ∨ (z.catchType ≠ 0 ∧ ∃ nm : String, (Cond.classLink own z.catchType nm).before args s = true ∧ va_Nc E nm s)) (hcell : H[q]? = some ce) (hv : ce.vm = .none) (hcl : s.vm.findClass E = some ce.cls)
    (hx : ∀ t : State, t.heap = H → s.vm.Alike t.vm → XC E s t) (hf : ∀ z ∈ locs, free z.base) (hc : cells ≤ mc) (hs : slots ≤ ms) :
    vx_W p l e R s m args below meth c H locs cells slots (vx_MQ below Qc XC args s mc ms free) (F0 m pc ls rest) q := by
  intro T hT X
  have hpl : e.platform.magicAccessors = ({} : Platform).magicAccessors := by rw [X.admits.platform]
  obtain ⟨vm', hW', X', st⟩ := X.outThrough hlocks q (g := F0 m pc ls rest) rfl rfl rfl (cell := ce) (by rw [hT]; exact hcell) (by rw [hv]; rfl)
    (by obtain ⟨k9, h9, -⟩ := Vm.findClass_spec hcl; exact ⟨k9, h9⟩) (fun z hz => by
      rcases hpass z hz with h | ⟨hz0, nm, hl1, hn1⟩
      · exact Or.inl h
      · obtain ⟨c6, hc6, hcl6⟩ := Cond.classLink_spec hown hl1 e.platform hpl
        obtain ⟨a8, b8, h1, h2, h3⟩ := hn1
        cases Option.some.inj (h1.symm.trans hcl)
        cases Option.some.inj (h2.symm.trans hc6)
        exact Or.inr ⟨hz0, _, hcl6, h3⟩)
  obtain ⟨g₀, hfr⟩ := X'.frames_eq
  have hcell9 : ((T.setVm vm').setFrames (.throwing q :: below)).heap[q]? = some ce := by
    show T.heap[q]? = some ce
    rw [hT]; exact hcell
  have hend : Ended ((T.setVm vm').setFrames (.throwing q :: below)) below (.threw q) := State.frames_setFrames _ (State.cur_lt_of_frames hfr)
  refine ⟨(T.setVm vm').setFrames (.throwing q :: below), ?_, .threw q, X'.here.running, hend, Or.inr ⟨q, rfl, E, ce, locs, hx _ hT (X'.ends _).1.alike, hcell9, hv, hcl, (X'.ends _).1, (X'.ends _).2.mono hc hs, hf⟩⟩
  rw [X.pushThrowing_eq]
  exact st
/-- a thing of a world lies in the heap -/
theorem vx_lt {D : va_G} {cl : List vw_C} {ws : va_W} {H1 : Heap} (h : va_P D cl ws H1) {k : Nat} {q : Nat × va_E} (hk : ws[k]? = some q) : q.1 < H1.size := (h k q hk).lt
end VXS
/-! ===== END ===== -/
/-! ===== BEGIN methods with a table of their own: called by a name, returning or throwing ===== -/
section VXH
/-! vx_backW, vx_callVX, vx_callSX, vx_callVW, vx_runVW, vx_runVX, vx_runSX, vx_ofWH follow the same proofs as their sisters above (Free/Laws.lean, Shelf42/LK1.lean); vx_outP calls Shelf42/NT130.lean (outThrough). -/
section
variable {l : Launch} {R : Room} {p : Program} {e : Env} {below : List Frame} {s : State} {sargs : Array Value} {y : MethodName} {len W9 : Nat}
theorem vx_backW {ws : List Cond} {rm : Room} {Pc : Array Value → State → Prop} {Qc : Array Value → State → Outcome → State → Prop} {XC : String → State → State → Prop} {mc ms : Nat} {free : Addr → Prop} {bytes : ByteArray} {maxL : Nat} {ret : Option FieldType} {hh : List (Nat × Nat × Nat × Nat)}
    (hM : vx_Met l y ws rm Pc Qc XC mc ms free) (hblind : FrameBlind Pc) (hrc : rm.cells = mc) (hrs : rm.slots = ms)
    (hframes : rm.frames + 1 ≤ R.frames) (hlocals : W9 + (maxL + 11) + rm.locals ≤ R.locals)
    (hws : ∀ w ∈ ws, ∀ a' U, s.WarmedH U.vm → w.before a' U = true) (hcode : Cond.codeWith y bytes maxL ret hh ∈ ws) (hinit : ∀ a' U, s.WarmedH U.vm → (Cond.initialized y.cls).before a' U = true) :
    vx_Back l R p e below s sargs y len W9 (PreOf R mc ms Pc) (PostOf Qc mc ms free) (vx_Post XC mc ms free) := by
  intro m meth c A g ig mk a X hg hsize hdg hW hn hp
  have h1 : (headSpec ws rm).pre.before a A.U = true := atoms_intro fun w hw => hws w hw _ _ X.warmed
  have h2 : (Cond.codeWith y bytes maxL ret hh).before a A.U = true := hws _ hcode _ _ X.warmed
  have h3 : (Cond.initialized y.cls).before a A.U = true := hinit _ _ X.warmed
  have h4 : A.cells + (headSpec ws rm).room.cells ≤ R.cells := by rw [show (headSpec ws rm).room.cells = mc from hrc]; exact hp.1
  have h5 : A.slots + (headSpec ws rm).room.slots ≤ R.slots := by rw [show (headSpec ws rm).room.slots = ms from hrs]; exact hp.2.1
  have hPc : Pc a (A.U.calling g mk a) := hblind _ _ _ _ hp.2.2
  obtain ⟨U, Ls, c0, s0⟩ := A
  dsimp only [Pt.U, Pt.locs, Pt.cells, Pt.slots] at h1 h2 h3 h4 h5 X hn hPc ⊢
  obtain ⟨m9, methY, cY, hn9, hmY, hcY, -, hlY, -⟩ := Cond.codeWith_spec h2
  cases Option.some.inj (hn9.symm.trans hn)
  obtain ⟨kY, hkY, -⟩ := className_of_methodNamed hn
  have hinitY : kY.init = .initialized := Cond.initialized_spec (findClass_of_methodNamed hn) hkY h3
  have h : At U g.method c below := by rw [hg]; exact X.here
  have hlocals9 : W9 + (maxL + 11) + (headSpec ws rm).room.locals ≤ R.locals := hlocals
  have happ : (headSpec ws rm).appliesLoose y e.platform (U.calling g mk a) = true :=
    Spec.appliesLoose_calling (g := g) h hdg hn hkY hinitY
      (X.room_calling (g := g) (R' := (headSpec ws rm).room) hsize hmY hcY hframes (by rw [hlY]; omega) h4 h5) h1
  obtain ⟨mid, hmid⟩ := h.above
  have hfr : (U.setTop g).frames = (.java g :: mid) ++ below := by rw [State.frames_setTop' g h.top, hmid]; rfl
  obtain ⟨o, s₂, hsteps, -, hend, hq⟩ := Steps.callFree hM p X.admits X.cas X.clock (acts := []) hfr happ hPc trivial
  have hq' : vx_Q Qc XC mc ms free a (U.calling g mk a) o s₂ := hq
  rw [State.frames_setTop' g h.top] at hend
  obtain ⟨g₀, hg0⟩ := Option.isSome_iff_exists.mp h.top
  obtain ⟨r, hr⟩ := State.topJava?_eq_some.mp hg0
  have hr' : (({ U with heap := s₂.heap, slotsUsed := s₂.slotsUsed } : State).setVm s₂.vm).frames = .java g₀ :: r := hr
  rcases hq' with ⟨hqc, L, hfe, hL⟩ | ⟨q, rfl, E, ce, L, hx, hce, hcv, hcl, hW₂, hsm, hL⟩
  · obtain ⟨⟨v, rfl⟩, hW₂, e2, q2, q3, q4, q5, q6⟩ := id hfe
    have e3 : s₂ = ({ (U.calling g mk a).setFrames s₂.frames with heap := s₂.heap, slotsUsed := s₂.slotsUsed } : State).setVm s₂.vm := by
      have : s₂ = ({ s₂ with vm := (U.calling g mk a).vm } : State).setVm s₂.vm := rfl
      rw [e2] at this
      exact this
    obtain ⟨c₂, i₂, len₂, hc₂, hd₂, hf₂⟩ := hend
    have hW' : U.WarmedH s₂.vm := hW₂
    have hcc : c₂ = c := by
      have h1 : s₂.code? g.method = U.code? g.method := by
        rw [State.code?_eq, State.code?_eq, hW'.alike.method?]
      exact Option.some.inj (hc₂.symm.trans (h1.trans h.code))
    subst hcc
    have hlen : len₂ = len := by rw [hdg] at hd₂; cases hd₂; rfl
    subst hlen
    have hs₂ : s₂ = (({ U with heap := s₂.heap, slotsUsed := s₂.slotsUsed } : State).setVm s₂.vm).setTop { g with pc := g.pc + len₂, stack := v.toList ++ g.stack } := by
      refine e3.trans ?_
      rw [hf₂, State.calling_eq h.top, State.setFrames_setFrames, State.setTop_of_frames _ hr', hr]
      rfl
    have hsame : U.sameButNew ({ U with heap := s₂.heap, slotsUsed := s₂.slotsUsed } : State) L mc ms := by
      refine ⟨?_, q2, q3, q4, q5, q6⟩
      obtain ⟨t, ht, -⟩ := State.frames_cons hr
      show ({ U with heap := s₂.heap, slotsUsed := s₂.slotsUsed } : State) = { U.setFrames U.frames with heap := s₂.heap, slotsUsed := s₂.slotsUsed }
      rw [State.setFrames_self ht]
    subst hg
    refine Or.inl ⟨v, ⟨(({ U with heap := s₂.heap, slotsUsed := s₂.slotsUsed } : State).setVm s₂.vm), Ls ++ L, c0 + mc, s0 + ms⟩,
      ⟨X.admits, X.cas, X.clock, X.frames, X.room, X.hears, X.method, X.code, (X.here.setHeapUsed s₂.heap s₂.slotsUsed).setVm hW'.alike, X.tail, State.WarmedH.trans X.warmed hW', X.limits, X.bytes, X.same.trans (hsame.setVm s.vm)⟩,
      ⟨g, mk, s₂, L, rfl, rfl, hqc, rfl, hL, rfl, rfl⟩, ?_⟩
    show Steps p.tables e below _ ((({ U with heap := s₂.heap, slotsUsed := s₂.slotsUsed } : State).setVm s₂.vm).setTop { g with pc := g.pc + len₂, stack := v.toList ++ g.stack })
    rw [← hs₂]
    exact hsteps
  · obtain ⟨e2, q2, q3, q4, q5, q6⟩ := id hsm
    have e3 : s₂ = ({ (U.calling g mk a).setFrames s₂.frames with heap := s₂.heap, slotsUsed := s₂.slotsUsed } : State).setVm s₂.vm := by
      have : s₂ = ({ s₂ with vm := (U.calling g mk a).vm } : State).setVm s₂.vm := rfl
      rw [e2] at this
      exact this
    have hf₂ : s₂.frames = .throwing q :: .java g :: U.frames.tail := hend
    have hW' : U.WarmedH s₂.vm := hW₂
    have hs₂ : s₂ = ((({ U with heap := s₂.heap, slotsUsed := s₂.slotsUsed } : State).setVm s₂.vm).setTop g).pushFrame (.throwing q) := by
      refine e3.trans ?_
      rw [hf₂, State.calling_eq h.top, State.setFrames_setFrames, State.pushFrame, State.frames_setTop _ hr', State.setTop_of_frames _ hr', State.setFrames_setFrames, hr]
      rfl
    have hsame : U.sameButNew ({ U with heap := s₂.heap, slotsUsed := s₂.slotsUsed } : State) L mc ms := by
      refine ⟨?_, q2, q3, q4, q5, q6⟩
      obtain ⟨t, ht, -⟩ := State.frames_cons hr
      show ({ U with heap := s₂.heap, slotsUsed := s₂.slotsUsed } : State) = { U.setFrames U.frames with heap := s₂.heap, slotsUsed := s₂.slotsUsed }
      rw [State.setFrames_self ht]
    subst hg
    refine Or.inr ⟨q, ⟨(({ U with heap := s₂.heap, slotsUsed := s₂.slotsUsed } : State).setVm s₂.vm), Ls ++ L, c0 + mc, s0 + ms⟩,
      ⟨X.admits, X.cas, X.clock, X.frames, X.room, X.hears, X.method, X.code, (X.here.setHeapUsed s₂.heap s₂.slotsUsed).setVm hW'.alike, X.tail, State.WarmedH.trans X.warmed hW', X.limits, X.bytes, X.same.trans (hsame.setVm s.vm)⟩,
      ⟨g, mk, s₂, L, E, ce, rfl, rfl, hx, hce, hcv, hcl, rfl, hL, rfl, rfl⟩, ?_⟩
    show Steps p.tables e below _ (((({ U with heap := s₂.heap, slotsUsed := s₂.slotsUsed } : State).setVm s₂.vm).setTop g).pushFrame (.throwing q))
    rw [← hs₂]
    exact hsteps
end
variable {p : Program} {l : Launch} {e : Env} {R : Room} {s : State} {m : MethodId} {args : Array Value} {below : List Frame} {meth : Method} {c : Code} {T : State} {H : Heap} {locs : List Loc} {cells slots : Nat}
theorem vx_callVX (X : Stand p l e R s m args below meth c T locs cells slots) (hexec : p.tables.exec = Jvm.exec) {own C : String} {index : Nat} {y : MethodName} {bytes : ByteArray} {maxL : Nat} {ret : Option FieldType} {hh : List (Nat × Nat × Nat × Nat)}
    (hown : s.vm.findClass own = some m.cls) (hlink : (Cond.methodLink own index y).before args s = true) (hinst : (Cond.instanceMethod y).before args s = true) (hsel : (Cond.selects C y y).before args s = true)
    (hcode : (Cond.codeWith y bytes maxL ret hh).before args s = true) (hy : y.cls ≠ "java/lang/invoke/MethodHandle" ∧ y.cls ≠ "java/lang/invoke/VarHandle")
    {W9 : Nat} {Pre : Pt → Array Value → Prop} {Post : Pt → Array Value → Option Value → Pt → Prop} {PostX : Pt → Array Value → Addr → Pt → Prop} (hK : vx_Back l R p e below s args y 3 W9 Pre Post PostX)
    {b : Addr} {cellB : Cell} (hcell : T.heap[b]? = some cellB) (hobj : cellB.vm.isStatics = false) (hcls : s.vm.findClass C = some cellB.cls)
    {g : JFrame} (hg : g.method = m) (hsize : g.locals.size = c.maxLocals) {argsL rest : List Value} (hlen : ∀ sig, parseMethodDescriptor y.desc = some sig → argsL.length = sig.parameters.length)
    (hstack : g.stack = argsL.reverse ++ .ref b :: rest) (hW : 2 * g.monitorRoom + (rest.map fun v => v.category).sum ≤ W9) (hdg : decode c.code g.pc = .ok (.invokevirtual index, 3))
    (hpre : ∀ vm₁, s.WarmedH vm₁ → Pre ⟨T.setVm vm₁, locs, cells, slots⟩ (Value.ref b :: argsL).toArray) :
    (∃ (v : Option Value) (vm₁ : Vm) (B : Pt), s.WarmedH vm₁ ∧ Stand p l e R s m args below meth c B.U B.locs B.cells B.slots ∧ Post ⟨T.setVm vm₁, locs, cells, slots⟩ (Value.ref b :: argsL).toArray v B ∧
      ∀ target, Steps p.tables e below (B.U.setTop { g with pc := g.pc + 3, stack := v.toList ++ rest }) target → Steps p.tables e below (T.setTop g) target) ∨
    (∃ (q : Addr) (vm₁ : Vm) (B : Pt), s.WarmedH vm₁ ∧ Stand p l e R s m args below meth c B.U B.locs B.cells B.slots ∧ PostX ⟨T.setVm vm₁, locs, cells, slots⟩ (Value.ref b :: argsL).toArray q B ∧
      Steps p.tables e below (T.setTop g) ((B.U.setTop { g with stack := rest }).pushFrame (.throwing q))) := by
  obtain ⟨mk, methM, hnamed, hmethM, hstM, habM⟩ := Cond.instanceMethod_spec hinst
  obtain ⟨m8, methM', cM, hn8, hmethM', -, -, -, -, -, -, hsigM⟩ := Cond.codeWith_spec hcode
  cases Option.some.inj (hn8.symm.trans hnamed)
  cases hmethM.symm.trans hmethM'
  obtain ⟨c2, r2, m2, q1, q2, q3, q4, kP, hkP, hkPi⟩ := Cond.selects_spec hsel
  cases hcls.symm.trans q1
  cases (State.methodFound?_of_named hnamed hy).symm.trans q2
  cases hnamed.symm.trans q3
  have hselP : selectMethod e.platform s.vm cellB.cls mk = .method mk := by rw [Launch.admits_selectMethod X.admits]; exact q4
  obtain ⟨vm₁, X₁, hstep₁⟩ := X.invokevirtual hexec hown hlink hnamed hmethM hstM hkP hkPi hy (a := b) (cell := cellB) hcell
    (fun z h => by rw [h] at hobj; cases hobj) hselP hmethM habM hkP hkPi (g := g) hg (argsL := argsL) (rest := rest) (hlen _ hsigM) hstack hdg
  rcases hK m meth c ⟨T.setVm vm₁, locs, cells, slots⟩ { g with stack := rest } (.invokevirtual index) mk (Value.ref b :: argsL).toArray X₁ hg hsize hdg hW (X₁.named hnamed) (hpre vm₁ X₁.warmed) with ⟨v, B, X', hpost, hsteps⟩ | ⟨q, B, X', hpost, hsteps⟩
  · exact Or.inl ⟨v, vm₁, B, X₁.warmed, X', hpost, fun target h => hstep₁ _ fun acts => by rw [doInvoke_state]; exact hsteps.trans h⟩
  · exact Or.inr ⟨q, vm₁, B, X₁.warmed, X', hpost, hstep₁ _ fun acts => by rw [doInvoke_state]; exact hsteps⟩
theorem vx_callSX (X : Stand p l e R s m args below meth c T locs cells slots) (hexec : p.tables.exec = Jvm.exec) {own : String} {index : Nat} {y : MethodName} {bytes : ByteArray} {maxL : Nat} {ret : Option FieldType} {hh : List (Nat × Nat × Nat × Nat)}
    (hown : s.vm.findClass own = some m.cls) (hlink : (Cond.methodLink own index y).before args s = true) (hstat : (Cond.static y).before args s = true) (hinit : (Cond.initialized y.cls).before args s = true)
    (hcode : (Cond.codeWith y bytes maxL ret hh).before args s = true) (hy : y.cls ≠ "java/lang/invoke/MethodHandle" ∧ y.cls ≠ "java/lang/invoke/VarHandle")
    {W9 : Nat} {Pre : Pt → Array Value → Prop} {Post : Pt → Array Value → Option Value → Pt → Prop} {PostX : Pt → Array Value → Addr → Pt → Prop} (hK : vx_Back l R p e below s args y 3 W9 Pre Post PostX)
    {g : JFrame} (hg : g.method = m) (hsize : g.locals.size = c.maxLocals) {argsL rest : List Value} (hlen : ∀ sig, parseMethodDescriptor y.desc = some sig → argsL.length = sig.parameters.length)
    (hstack : g.stack = argsL.reverse ++ rest) (hW : 2 * g.monitorRoom + (rest.map fun v => v.category).sum ≤ W9) (hdg : decode c.code g.pc = .ok (.invokestatic index, 3))
    (hpre : ∀ vm₁, s.WarmedH vm₁ → Pre ⟨T.setVm vm₁, locs, cells, slots⟩ argsL.toArray) :
    (∃ (v : Option Value) (vm₁ : Vm) (B : Pt), s.WarmedH vm₁ ∧ Stand p l e R s m args below meth c B.U B.locs B.cells B.slots ∧ Post ⟨T.setVm vm₁, locs, cells, slots⟩ argsL.toArray v B ∧
      ∀ target, Steps p.tables e below (B.U.setTop { g with pc := g.pc + 3, stack := v.toList ++ rest }) target → Steps p.tables e below (T.setTop g) target) ∨
    (∃ (q : Addr) (vm₁ : Vm) (B : Pt), s.WarmedH vm₁ ∧ Stand p l e R s m args below meth c B.U B.locs B.cells B.slots ∧ PostX ⟨T.setVm vm₁, locs, cells, slots⟩ argsL.toArray q B ∧
      Steps p.tables e below (T.setTop g) ((B.U.setTop { g with stack := rest }).pushFrame (.throwing q))) := by
  obtain ⟨mk, methM, cM, hnamed, hmethM, -, -, -, -, -, -, hsigM⟩ := Cond.codeWith_spec hcode
  have hstatic : methM.isStatic = true := Cond.static_spec hnamed hmethM hstat
  obtain ⟨kP, hkP, -⟩ := className_of_methodNamed hnamed
  have hinitP : kP.init = .initialized := Cond.initialized_spec (findClass_of_methodNamed hnamed) hkP hinit
  obtain ⟨vm₁, X₁, hstep₁⟩ := X.invokestatic hexec hown hlink hnamed hmethM hstatic hkP hinitP hy (g := g) hg (argsL := argsL) (rest := rest) (hlen _ hsigM) hstack hdg
  rcases hK m meth c ⟨T.setVm vm₁, locs, cells, slots⟩ { g with stack := rest } (.invokestatic index) mk argsL.toArray X₁ hg hsize hdg hW (X₁.named hnamed) (hpre vm₁ X₁.warmed) with ⟨v, B, X', hpost, hsteps⟩ | ⟨q, B, X', hpost, hsteps⟩
  · exact Or.inl ⟨v, vm₁, B, X₁.warmed, X', hpost, fun target h => hstep₁ _ fun acts => by rw [doInvoke_state]; exact hsteps.trans h⟩
  · exact Or.inr ⟨q, vm₁, B, X₁.warmed, X', hpost, hstep₁ _ fun acts => by rw [doInvoke_state]; exact hsteps⟩
theorem vx_callVW (X : Stand p l e R s m args below meth c T locs cells slots) (hexec : p.tables.exec = Jvm.exec) {own C : String} {index : Nat} {y : MethodName} {bytes : ByteArray} {maxL : Nat} {ret : Option FieldType} {hh : List (Nat × Nat × Nat × Nat)}
    (hown : s.vm.findClass own = some m.cls) (hlink : (Cond.methodLink own index y).before args s = true) (hinst : (Cond.instanceMethod y).before args s = true) (hsel : (Cond.selects C y y).before args s = true)
    (hcode : (Cond.codeWith y bytes maxL ret hh).before args s = true) (hy : y.cls ≠ "java/lang/invoke/MethodHandle" ∧ y.cls ≠ "java/lang/invoke/VarHandle")
    {W9 : Nat} {Pre : Pt → Array Value → Prop} {Post : Pt → Array Value → Option Value → Pt → Prop} (hK : Back l R p e below s args y 3 W9 Pre Post)
    {b : Addr} {cellB : Cell} (hcell : T.heap[b]? = some cellB) (hobj : cellB.vm.isStatics = false) (hcls : s.vm.findClass C = some cellB.cls)
    {g : JFrame} (hg : g.method = m) (hsize : g.locals.size = c.maxLocals) {argsL rest : List Value} (hlen : ∀ sig, parseMethodDescriptor y.desc = some sig → argsL.length = sig.parameters.length)
    (hstack : g.stack = argsL.reverse ++ .ref b :: rest) (hW : 2 * g.monitorRoom + (rest.map fun v => v.category).sum ≤ W9) (hdg : decode c.code g.pc = .ok (.invokevirtual index, 3))
    (hpre : ∀ vm₁, s.WarmedH vm₁ → Pre ⟨T.setVm vm₁, locs, cells, slots⟩ (Value.ref b :: argsL).toArray) :
    ∃ (v : Option Value) (vm₁ : Vm) (B : Pt), s.WarmedH vm₁ ∧ Stand p l e R s m args below meth c B.U B.locs B.cells B.slots ∧ Post ⟨T.setVm vm₁, locs, cells, slots⟩ (Value.ref b :: argsL).toArray v B ∧
      ∀ target, Steps p.tables e below (B.U.setTop { g with pc := g.pc + 3, stack := v.toList ++ rest }) target → Steps p.tables e below (T.setTop g) target := by
  obtain ⟨mk, methM, hnamed, hmethM, hstM, habM⟩ := Cond.instanceMethod_spec hinst
  obtain ⟨m8, methM', cM, hn8, hmethM', -, -, -, -, -, -, hsigM⟩ := Cond.codeWith_spec hcode
  cases Option.some.inj (hn8.symm.trans hnamed)
  cases hmethM.symm.trans hmethM'
  obtain ⟨c2, r2, m2, q1, q2, q3, q4, kP, hkP, hkPi⟩ := Cond.selects_spec hsel
  cases hcls.symm.trans q1
  cases (State.methodFound?_of_named hnamed hy).symm.trans q2
  cases hnamed.symm.trans q3
  have hselP : selectMethod e.platform s.vm cellB.cls mk = .method mk := by rw [Launch.admits_selectMethod X.admits]; exact q4
  obtain ⟨vm₁, X₁, hstep₁⟩ := X.invokevirtual hexec hown hlink hnamed hmethM hstM hkP hkPi hy (a := b) (cell := cellB) hcell
    (fun z h => by rw [h] at hobj; cases hobj) hselP hmethM habM hkP hkPi (g := g) hg (argsL := argsL) (rest := rest) (hlen _ hsigM) hstack hdg
  obtain ⟨v, B, X', hpost, hsteps⟩ := hK m meth c ⟨T.setVm vm₁, locs, cells, slots⟩ { g with stack := rest } (.invokevirtual index) mk (Value.ref b :: argsL).toArray X₁ hg hsize hdg hW (X₁.named hnamed) (hpre vm₁ X₁.warmed)
  exact ⟨v, vm₁, B, X₁.warmed, X', hpost, fun target h => hstep₁ _ fun acts => by rw [doInvoke_state]; exact hsteps.trans h⟩
abbrev vx_CVW (R : Room) (s : State) (args : Array Value) (own C : String) (index : Nat) (y : MethodName) (bytes : ByteArray) (maxL : Nat) (ret : Option FieldType) (hh : List (Nat × Nat × Nat × Nat)) (ws : List Cond) (rm : Room) (mc ms n : Nat) : Prop :=
  (rm.cells = mc ∧ rm.slots = ms ∧ rm.frames + 1 ≤ R.frames ∧ 8 + (maxL + 11) + rm.locals ≤ R.locals ∧ (∀ w ∈ ws, ∀ (a' : Array Value) (U : State), s.WarmedH U.vm → w.before a' U = true) ∧ Cond.codeWith y bytes maxL ret hh ∈ ws) ∧
  (Cond.codeWith y bytes maxL ret hh).before args s = true ∧ (Cond.initialized y.cls).before args s = true ∧ (y.cls ≠ "java/lang/invoke/MethodHandle" ∧ y.cls ≠ "java/lang/invoke/VarHandle") ∧
  (∀ sig, parseMethodDescriptor y.desc = some sig → n = sig.parameters.length) ∧ (Cond.methodLink own index y).before args s = true ∧ (Cond.instanceMethod y).before args s = true ∧ (Cond.selects C y y).before args s = true
theorem vx_cwVW {own C : String} {index maxL mc ms : Nat} {y : MethodName} {bytes : ByteArray} {ret : Option FieldType} {hh : List (Nat × Nat × Nat × Nat)} {Ts ws ws' : List Cond} {rm : Room} (n : Nat) (ht : ∀ w ∈ Ts, w.before args s = true) (hT : GoodIn Ts (wsV own index C y ws)) (hw : ws = Cond.codeWith y bytes maxL ret hh :: ws') (hrc : rm.cells = mc) (hrs : rm.slots = ms)
    (hd : y.cls = C ∧ y.cls ≠ "java/lang/invoke/MethodHandle" ∧ y.cls ≠ "java/lang/invoke/VarHandle" ∧ (parseMethodDescriptor y.desc).map (fun d => d.parameters.length) = some n) (hR : rm.frames + 1 ≤ R.frames ∧ 8 + (maxL + 11) + rm.locals ≤ R.locals) :
    vx_CVW R s args own C index y bytes maxL ret hh ws rm mc ms n := by
  obtain ⟨hC, hd⟩ := hd
  subst hC
  have ok : ∀ w ∈ wsV own index y.cls y ws, w.before args s = true := fun w h => ht w (hT w h).1
  have hG : GoodIn Ts ws := fun w h => hT w (by unfold wsV; exact List.mem_append_right _ h)
  have hc : Cond.codeWith y bytes maxL ret hh ∈ ws := by rw [hw]; exact List.mem_cons_self
  refine ⟨⟨hrc, hrs, hR.1, hR.2, pay_in ht hG, hc⟩, ht _ (hG _ hc).1, ok _ (by simp [wsV]), ⟨hd.1, hd.2.1⟩, fun sig h => ?_, ok _ (by simp [wsV]), ok _ (by simp [wsV]), ok _ (by simp [wsV])⟩
  have h2 := hd.2.2
  rw [h] at h2
  exact (Option.some.inj h2).symm
theorem vx_runVW {y : MethodName} {bytes cc : ByteArray} {maxL nL mc ms n index : Nat} {ret : Option FieldType} {hh : List (Nat × Nat × Nat × Nat)} {ws : List Cond} {rm : Room} {Pc : Array Value → State → Prop} {Qc : Array Value → State → Outcome → State → Prop} {free : Addr → Prop} {Ts : List Cond} {own C : String} {b : Addr} {As rest : List Value} {g : JFrame}
    (S : CallFix p m c cc nL s args Ts own) (hM : Met l y ws rm Pc Qc mc ms free) (cw : vx_CVW R s args own C index y bytes maxL ret hh ws rm mc ms n) (hp : PreV s H C b Pc As)
    (hg : g.method = m) (hn : As.length = n) (hsize : g.locals.size = nL) (hstack : g.stack = As.reverse ++ .ref b :: rest) (hW : 2 * g.monitorRoom + (rest.map fun v => v.category).sum ≤ 8) (hdg : decode cc g.pc = .ok (.invokevirtual index, 3)) (hf : cells + mc ≤ R.cells ∧ slots + ms ≤ R.slots) :
    va_Run p l e R s m args below meth c H locs cells slots mc ms g rest (Qc (Value.ref b :: As).toArray) free := by
  obtain ⟨⟨hrc, hrs, hfr, hlo, hws, hcw⟩, hcode, hini, hy, hlen, hl, hin, hse⟩ := cw
  have hK : Back l R p e below s args y 3 8 (PreOf R mc ms Pc) (PostOf Qc mc ms free) := va_backW (hh := hh) (bytes := bytes) (maxL := maxL) (ret := ret) hM hp.1 hrc hrs hfr hlo hws hcw (fun a' U hW => word_at hW (Or.inl (by first | rfl | simp [Cond.onTables, Cond.keeps, Cond.steady])) hini)
  obtain ⟨hx, hb, hml, ho, -⟩ := S
  obtain ⟨-, ⟨cellB, hcB, hoB, hclB⟩, hPc⟩ := hp
  intro T hT X
  obtain ⟨v, vm₁, ⟨U', l2, c2, s2⟩, hW₁, X', ⟨g', mk, t, L, e1, e2, hq, h1, hL, h2, h3⟩, st⟩ := vx_callVW X hx (C := C) (hh := hh) (bytes := bytes) (maxL := maxL) (ret := ret) ho hl hin hse hcode hy hK (by rw [hT]; exact hcB) hoB hclB hg (hsize.trans hml.symm) (argsL := As) (rest := rest) (fun sig h => hn.trans (hlen sig h)) hstack hW (by rw [hb]; exact hdg)
    (fun vm₁ hW₁ => ⟨hf.1, hf.2, hPc (T.setVm vm₁) hT hW₁⟩)
  dsimp only [Pt.U, Pt.locs, Pt.cells, Pt.slots] at X' e1 e2 h1 h2 h3 st
  subst h1; subst h2; subst h3
  exact ⟨v, (T.setVm vm₁).calling g' mk (Value.ref b :: As).toArray, t, U', L, hT, X', hL, e1, e2, hq, st⟩
section
variable {y : MethodName} {bytes cc : ByteArray} {maxL nL mc ms n index : Nat} {ret : Option FieldType} {ws : List Cond} {rm : Room} {Pc : Array Value → State → Prop} {Qc : Array Value → State → Outcome → State → Prop} {XC : String → State → State → Prop} {free : Addr → Prop} {Ts : List Cond} {own C : String} {b : Addr} {As rest : List Value} {g : JFrame}
theorem vx_runVX {hh : List (Nat × Nat × Nat × Nat)} (S : CallFix p m c cc nL s args Ts own) (hM : vx_Met l y ws rm Pc Qc XC mc ms free) (cw : vx_CVW R s args own C index y bytes maxL ret hh ws rm mc ms n) (hp : PreV s H C b Pc As)
    (hg : g.method = m) (hn : As.length = n) (hsize : g.locals.size = nL) (hstack : g.stack = As.reverse ++ .ref b :: rest) (hW : 2 * g.monitorRoom + (rest.map fun v => v.category).sum ≤ 8) (hdg : decode cc g.pc = .ok (.invokevirtual index, 3)) (hf : cells + mc ≤ R.cells ∧ slots + ms ≤ R.slots) :
    vx_Run p l e R s m args below meth c H locs cells slots mc ms g rest (Qc (Value.ref b :: As).toArray) XC free := by
  obtain ⟨⟨hrc, hrs, hfr, hlo, hws, hcw⟩, hcode, hini, hy, hlen, hl, hin, hse⟩ := cw
  have hK : vx_Back l R p e below s args y 3 8 (PreOf R mc ms Pc) (PostOf Qc mc ms free) (vx_Post XC mc ms free) := vx_backW (hh := hh) (bytes := bytes) (maxL := maxL) (ret := ret) hM hp.1 hrc hrs hfr hlo hws hcw (fun a' U hW => word_at hW (Or.inl (by first | rfl | simp [Cond.onTables, Cond.keeps, Cond.steady])) hini)
  obtain ⟨hx, hb, hml, ho, -⟩ := S
  obtain ⟨-, ⟨cellB, hcB, hoB, hclB⟩, hPc⟩ := hp
  intro T hT X
  rcases vx_callVX X hx (C := C) (hh := hh) (bytes := bytes) (maxL := maxL) (ret := ret) ho hl hin hse hcode hy hK (by rw [hT]; exact hcB) hoB hclB hg (hsize.trans hml.symm) (argsL := As) (rest := rest) (fun sig h => hn.trans (hlen sig h)) hstack hW (by rw [hb]; exact hdg)
    (fun vm₁ hW₁ => ⟨hf.1, hf.2, hPc (T.setVm vm₁) hT hW₁⟩) with ⟨v, vm₁, ⟨U', l2, c2, s2⟩, hW₁, X', ⟨g', mk, t, L, e1, e2, hq, h1, hL, h2, h3⟩, st⟩ | ⟨q, vm₁, ⟨U', l2, c2, s2⟩, hW₁, X', ⟨g', mk, t, L, E, ce, e1, e2, hq, hce, hcv, hcl, h1, hL, h2, h3⟩, st⟩
  · dsimp only [Pt.U, Pt.locs, Pt.cells, Pt.slots] at X' e1 e2 h1 h2 h3 st
    subst h1; subst h2; subst h3
    exact Or.inl ⟨v, (T.setVm vm₁).calling g' mk (Value.ref b :: As).toArray, t, U', L, hT, X', hL, e1, e2, hq, st⟩
  · dsimp only [Pt.U, Pt.locs, Pt.cells, Pt.slots] at X' e1 e2 h1 h2 h3 st hcl
    subst h1; subst h2; subst h3
    exact Or.inr ⟨q, (T.setVm vm₁).calling g' mk (Value.ref b :: As).toArray, t, U', L, E, ce, hT, X', hL, e1, e2, hq, hce, hcv, vx_cls hW₁ hcl, st⟩
theorem vx_runSX {hh : List (Nat × Nat × Nat × Nat)} (S : CallFix p m c cc nL s args Ts own) (hM : vx_Met l y ws rm Pc Qc XC mc ms free) (cw : vx_CSW R s args own index y bytes maxL ret hh ws rm mc ms n) (hp : PreS s H Pc As)
    (hg : g.method = m) (hn : As.length = n) (hsize : g.locals.size = nL) (hstack : g.stack = As.reverse ++ rest) (hW : 2 * g.monitorRoom + (rest.map fun v => v.category).sum ≤ 8) (hdg : decode cc g.pc = .ok (.invokestatic index, 3)) (hf : cells + mc ≤ R.cells ∧ slots + ms ≤ R.slots) :
    vx_Run p l e R s m args below meth c H locs cells slots mc ms g rest (Qc As.toArray) XC free := by
  obtain ⟨⟨hrc, hrs, hfr, hlo, hws, hcw⟩, hcode, hini, hy, hlen, hl, hstt⟩ := cw
  have hK : vx_Back l R p e below s args y 3 8 (PreOf R mc ms Pc) (PostOf Qc mc ms free) (vx_Post XC mc ms free) := vx_backW (hh := hh) (bytes := bytes) (maxL := maxL) (ret := ret) hM hp.1 hrc hrs hfr hlo hws hcw (fun a' U hW => word_at hW (Or.inl (by first | rfl | simp [Cond.onTables, Cond.keeps, Cond.steady])) hini)
  obtain ⟨hx, hb, hml, ho, -⟩ := S
  intro T hT X
  rcases vx_callSX X hx (hh := hh) (bytes := bytes) (maxL := maxL) (ret := ret) ho hl hstt hini hcode hy hK hg (hsize.trans hml.symm) (argsL := As) (rest := rest) (fun sig h => hn.trans (hlen sig h)) hstack hW (by rw [hb]; exact hdg)
    (fun vm₁ hW₁ => ⟨hf.1, hf.2, hp.2 (T.setVm vm₁) hT hW₁⟩) with ⟨v, vm₁, ⟨U', l2, c2, s2⟩, hW₁, X', ⟨g', mk, t, L, e1, e2, hq, h1, hL, h2, h3⟩, st⟩ | ⟨q, vm₁, ⟨U', l2, c2, s2⟩, hW₁, X', ⟨g', mk, t, L, E, ce, e1, e2, hq, hce, hcv, hcl, h1, hL, h2, h3⟩, st⟩
  · dsimp only [Pt.U, Pt.locs, Pt.cells, Pt.slots] at X' e1 e2 h1 h2 h3 st
    subst h1; subst h2; subst h3
    exact Or.inl ⟨v, (T.setVm vm₁).calling g' mk As.toArray, t, U', L, hT, X', hL, e1, e2, hq, st⟩
  · dsimp only [Pt.U, Pt.locs, Pt.cells, Pt.slots] at X' e1 e2 h1 h2 h3 st hcl
    subst h1; subst h2; subst h3
    exact Or.inr ⟨q, (T.setVm vm₁).calling g' mk As.toArray, t, U', L, E, ce, hT, X', hL, e1, e2, hq, hce, hcv, vx_cls hW₁ hcl, st⟩
end
end VXH
theorem vx_ofWH {l : Launch} {y : MethodName} {ws ws' : List Cond} {rm : Room} {Pc : Array Value → State → Prop} {Qc : Array Value → State → Outcome → State → Prop} {XC : String → State → State → Prop} {mc ms : Nat} {free : Addr → Prop} {cc : ByteArray} {maxL : Nat} {ret : Option FieldType} {hh : List (Nat × Nat × Nat × Nat)}
    (hy : plainName y.cls = true) (hw : ws = Cond.codeWith y cc maxL ret hh :: ws')
    (body : ∀ p e s m args below meth c s₁, BodyLoose p l y (headSpec ws rm) cc maxL ret e s m args below meth c s₁ → c.maxLocals = maxL → Pc args s →
      W p l e (headSpec ws rm).room s m args below meth c s.heap [] 0 0 (vx_MQ below Qc XC args s mc ms free) (entryFrame m args maxL)) : vx_Met l y ws rm Pc Qc XC mc ms free := by
  refine MetFree.of_bodyS (code := cc) (maxLocals := maxL) (ret := ret) hy ?_ ?_
  · intro args s m h hn
    obtain ⟨m9, meth, c, hn9, h1, h2, h3, h4, -, h5, h6, -⟩ := Cond.codeWith_spec (atoms_spec (ws := ws) h _ (by rw [hw]; exact List.mem_cons_self))
    cases hn.symm.trans hn9
    exact ⟨meth, c, h1, h2, h3, h4, h5, h6⟩
  · intro p e s m args below meth c s₁ B hml hP _
    have hh0 : s₁.heap = s.heap := by rw [B.state]; rfl
    obtain ⟨t, a1, o, b1, b2, b3⟩ := body p e s m args below meth c s₁ B hml hP s₁ hh0 (Stand.of_body B)
    exact ⟨t, o, a1, b1, b2, b3⟩
/-! ===== END ===== -/
end
section
def RX0 : String := "Resetline$Calendar"
def TX0 : u_T := fun k => match k with
  | 0 => ("Resetline$Calendar", "firstTown", "LResetline$Diary;", true)
  | _ => ("Resetline$Calendar", "secondTown", "LResetline$Diary;", true)
def tyX0 : Nat → FieldType := fun k => match k with
  | 0 => .object "Resetline$Diary"
  | _ => .object "Resetline$Diary"
abbrev wsX00 : List Cond := u_ws RX0 TX0 2
theorem nmX0 : ∀ a, a < 2 → ∀ b, b < 2 → a ≠ b → (TX0 a).2.1 ≠ (TX0 b).2.1 := by decide +kernel
theorem tyX0_ok : ∀ k, k < 2 → parseFieldDescriptor (TX0 k).2.2.1 = some (tyX0 k) := by decide +kernel
abbrev cX0_init : ByteArray := prog_2_method_1_code
def yX0_init : MethodName := ⟨RX0, "<init>", "()V"⟩
abbrev cX0_holidaysOf : ByteArray := prog_2_method_2_code
def yX0_holidaysOf : MethodName := ⟨RX0, "holidaysOf", "(I)LResetline$Diary;"⟩
abbrev cX0_opensOn : ByteArray := prog_2_method_3_code
def yX0_opensOn : MethodName := ⟨RX0, "opensOn", "(I)Z"⟩
abbrev cX0_rolledDayOf : ByteArray := prog_2_method_4_code
def yX0_rolledDayOf : MethodName := ⟨RX0, "rolledDayOf", "(I)I"⟩
def RX1 : String := "Resetline$Diary"
def TX1 : u_T := fun k => match k with
  | _ => ("Resetline$Diary", "entries", "Ljava/util/ArrayList;", true)
def tyX1 : Nat → FieldType := fun k => match k with
  | _ => .object "java/util/ArrayList"
abbrev wsX10 : List Cond := u_ws RX1 TX1 1
theorem nmX1 : ∀ a, a < 1 → ∀ b, b < 1 → a ≠ b → (TX1 a).2.1 ≠ (TX1 b).2.1 := by decide +kernel
theorem tyX1_ok : ∀ k, k < 1 → parseFieldDescriptor (TX1 k).2.2.1 = some (tyX1 k) := by decide +kernel
abbrev cX1_init : ByteArray := prog_3_method_1_code
def yX1_init : MethodName := ⟨RX1, "<init>", "()V"⟩
abbrev cX1_count : ByteArray := prog_3_method_2_code
def yX1_count : MethodName := ⟨RX1, "count", "()I"⟩
abbrev cX1_has : ByteArray := prog_3_method_3_code
def yX1_has : MethodName := ⟨RX1, "has", "(I)Z"⟩
abbrev cX1_add : ByteArray := prog_3_method_4_code
def yX1_add : MethodName := ⟨RX1, "add", "(II)V"⟩
abbrev cX1_put : ByteArray := prog_3_method_5_code
def yX1_put : MethodName := ⟨RX1, "put", "(II)V"⟩
abbrev cX1_latestValue : ByteArray := prog_3_method_6_code
def yX1_latestValue : MethodName := ⟨RX1, "latestValue", "(II)I"⟩
abbrev cX1_sumUntil : ByteArray := prog_3_method_7_code
def yX1_sumUntil : MethodName := ⟨RX1, "sumUntil", "(I)I"⟩
abbrev cX1_entryOf : ByteArray := prog_3_method_8_code
def yX1_entryOf : MethodName := ⟨RX1, "entryOf", "(I)LResetline$Entry;"⟩
def RX2 : String := "Resetline$Entry"
def TX2 : u_T := fun k => match k with
  | 0 => ("Resetline$Entry", "day", "I", true)
  | _ => ("Resetline$Entry", "value", "I", false)
def tyX2 : Nat → FieldType := fun k => match k with
  | 0 => .int
  | _ => .int
abbrev wsX20 : List Cond := u_ws RX2 TX2 2
theorem nmX2 : ∀ a, a < 2 → ∀ b, b < 2 → a ≠ b → (TX2 a).2.1 ≠ (TX2 b).2.1 := by decide +kernel
theorem tyX2_ok : ∀ k, k < 2 → parseFieldDescriptor (TX2 k).2.2.1 = some (tyX2 k) := by decide +kernel
abbrev cX2_init : ByteArray := prog_4_method_1_code
def yX2_init : MethodName := ⟨RX2, "<init>", "(II)V"⟩
def RX3 : String := "Resetline$Swap"
def TX3 : u_T := fun k => match k with
  | 0 => ("Resetline$Swap", "party", "I", true)
  | 1 => ("Resetline$Swap", "lots", "I", true)
  | 2 => ("Resetline$Swap", "paysFixed", "Z", true)
  | 3 => ("Resetline$Swap", "fixed", "I", true)
  | 4 => ("Resetline$Swap", "first", "I", true)
  | 5 => ("Resetline$Swap", "length", "I", true)
  | 6 => ("Resetline$Swap", "periods", "I", true)
  | 7 => ("Resetline$Swap", "spread", "I", false)
  | 8 => ("Resetline$Swap", "dayCount", "I", false)
  | 9 => ("Resetline$Swap", "compounding", "I", false)
  | 10 => ("Resetline$Swap", "breaks", "LResetline$Diary;", true)
  | 11 => ("Resetline$Swap", "handovers", "LResetline$Diary;", true)
  | _ => ("Resetline$Swap", "bounds", "[I", true)
def tyX3 : Nat → FieldType := fun k => match k with
  | 0 => .int
  | 1 => .int
  | 2 => .boolean
  | 3 => .int
  | 4 => .int
  | 5 => .int
  | 6 => .int
  | 7 => .int
  | 8 => .int
  | 9 => .int
  | 10 => .object "Resetline$Diary"
  | 11 => .object "Resetline$Diary"
  | _ => .array .int
abbrev wsX30 : List Cond := u_ws RX3 TX3 13
theorem nmX3 : ∀ a, a < 13 → ∀ b, b < 13 → a ≠ b → (TX3 a).2.1 ≠ (TX3 b).2.1 := by decide +kernel
theorem tyX3_ok : ∀ k, k < 13 → parseFieldDescriptor (TX3 k).2.2.1 = some (tyX3 k) := by decide +kernel
abbrev cX3_init : ByteArray := prog_5_method_1_code
def yX3_init : MethodName := ⟨RX3, "<init>", "(IIZIIII)V"⟩
abbrev cX3_rollDays : ByteArray := prog_5_method_2_code
def yX3_rollDays : MethodName := ⟨RX3, "rollDays", "(LResetline$Calendar;)V"⟩
abbrev cX3_startOf : ByteArray := prog_5_method_3_code
def yX3_startOf : MethodName := ⟨RX3, "startOf", "(I)I"⟩
abbrev cX3_endOf : ByteArray := prog_5_method_4_code
def yX3_endOf : MethodName := ⟨RX3, "endOf", "(I)I"⟩
abbrev cX3_lotsOf : ByteArray := prog_5_method_5_code
def yX3_lotsOf : MethodName := ⟨RX3, "lotsOf", "(I)I"⟩
abbrev cX3_restOfLots : ByteArray := prog_5_method_6_code
def yX3_restOfLots : MethodName := ⟨RX3, "restOfLots", "()I"⟩
abbrev cX3_holderOn : ByteArray := prog_5_method_7_code
def yX3_holderOn : MethodName := ⟨RX3, "holderOn", "(I)I"⟩
abbrev cX3_floatingOf : ByteArray := prog_5_method_8_code
def yX3_floatingOf : MethodName := ⟨RX3, "floatingOf", "(ILResetline$Diary;)J"⟩
abbrev cX3_flowOf : ByteArray := prog_5_method_9_code
def yX3_flowOf : MethodName := ⟨RX3, "flowOf", "(ILResetline$Diary;)J"⟩
abbrev cX3_cashOf : ByteArray := prog_5_method_10_code
def yX3_cashOf : MethodName := ⟨RX3, "cashOf", "(IIILResetline$Diary;)J"⟩
abbrev cX3_nextPayDay : ByteArray := prog_5_method_11_code
def yX3_nextPayDay : MethodName := ⟨RX3, "nextPayDay", "(II)I"⟩
abbrev cX3_fits : ByteArray := prog_5_method_12_code
def yX3_fits : MethodName := ⟨RX3, "fits", "(LResetline$Swap;)Z"⟩
abbrev cX3_isOfSamePartyFrom : ByteArray := prog_5_method_13_code
def yX3_isOfSamePartyFrom : MethodName := ⟨RX3, "isOfSamePartyFrom", "(ILResetline$Swap;)Z"⟩
abbrev cX3_daysOf : ByteArray := prog_5_method_14_code
def yX3_daysOf : MethodName := ⟨RX3, "daysOf", "(I)J"⟩
abbrev cX3_rateOf : ByteArray := prog_5_method_15_code
def yX3_rateOf : MethodName := ⟨RX3, "rateOf", "(ILResetline$Diary;)J"⟩
def RX4 : String := "Resetline"
def TX4 : u_T := fun k => match k with
  | 0 => ("Resetline", "calendar", "LResetline$Calendar;", true)
  | 1 => ("Resetline", "fixings", "LResetline$Diary;", true)
  | _ => ("Resetline", "book", "Ljava/util/ArrayList;", true)
def tyX4 : Nat → FieldType := fun k => match k with
  | 0 => .object "Resetline$Calendar"
  | 1 => .object "Resetline$Diary"
  | _ => .object "java/util/ArrayList"
abbrev wsX40 : List Cond := u_ws RX4 TX4 3
theorem nmX4 : ∀ a, a < 3 → ∀ b, b < 3 → a ≠ b → (TX4 a).2.1 ≠ (TX4 b).2.1 := by decide +kernel
theorem tyX4_ok : ∀ k, k < 3 → parseFieldDescriptor (TX4 k).2.2.1 = some (tyX4 k) := by decide +kernel
abbrev cX4_init : ByteArray := prog_1_method_1_code
def yX4_init : MethodName := ⟨RX4, "<init>", "()V"⟩
abbrev cX4_holiday : ByteArray := prog_1_method_2_code
def yX4_holiday : MethodName := ⟨RX4, "holiday", "(II)I"⟩
abbrev cX4_isOpen : ByteArray := prog_1_method_3_code
def yX4_isOpen : MethodName := ⟨RX4, "isOpen", "(I)Z"⟩
abbrev cX4_roll : ByteArray := prog_1_method_4_code
def yX4_roll : MethodName := ⟨RX4, "roll", "(I)I"⟩
abbrev cX4_fix : ByteArray := prog_1_method_5_code
def yX4_fix : MethodName := ⟨RX4, "fix", "(II)I"⟩
abbrev cX4_trade : ByteArray := prog_1_method_7_code
def yX4_trade : MethodName := ⟨RX4, "trade", "(IIZIIII)I"⟩
abbrev cX4_breakPart : ByteArray := prog_1_method_9_code
def yX4_breakPart : MethodName := ⟨RX4, "breakPart", "(III)I"⟩
abbrev cX4_handOver : ByteArray := prog_1_method_10_code
def yX4_handOver : MethodName := ⟨RX4, "handOver", "(III)I"⟩
abbrev cX4_press : ByteArray := prog_1_method_11_code
def yX4_press : MethodName := ⟨RX4, "press", "(I)I"⟩
abbrev cX4_trades : ByteArray := prog_1_method_12_code
def yX4_trades : MethodName := ⟨RX4, "trades", "()I"⟩
abbrev cX4_start : ByteArray := prog_1_method_13_code
def yX4_start : MethodName := ⟨RX4, "start", "(II)I"⟩
abbrev cX4_end : ByteArray := prog_1_method_14_code
def yX4_end : MethodName := ⟨RX4, "end", "(II)I"⟩
abbrev cX4_lots : ByteArray := prog_1_method_15_code
def yX4_lots : MethodName := ⟨RX4, "lots", "(II)I"⟩
abbrev cX4_flow : ByteArray := prog_1_method_17_code
def yX4_flow : MethodName := ⟨RX4, "flow", "(II)J"⟩
abbrev cX4_partyOn : ByteArray := prog_1_method_18_code
def yX4_partyOn : MethodName := ⟨RX4, "partyOn", "(II)I"⟩
abbrev cX4_cashOfDays : ByteArray := prog_1_method_20_code
def yX4_cashOfDays : MethodName := ⟨RX4, "cashOfDays", "(III)J"⟩
abbrev cX4_cashByTrades : ByteArray := prog_1_method_21_code
def yX4_cashByTrades : MethodName := ⟨RX4, "cashByTrades", "(III)J"⟩
abbrev cX4_nextFlow : ByteArray := prog_1_method_22_code
def yX4_nextFlow : MethodName := ⟨RX4, "nextFlow", "(II)I"⟩
abbrev cX4_checkRange : ByteArray := prog_1_method_23_code
def yX4_checkRange : MethodName := ⟨RX4, "checkRange", "(III)V"⟩
abbrev cX4_checkSpan : ByteArray := prog_1_method_24_code
def yX4_checkSpan : MethodName := ⟨RX4, "checkSpan", "(II)V"⟩
abbrev cX4_checkParty : ByteArray := prog_1_method_25_code
def yX4_checkParty : MethodName := ⟨RX4, "checkParty", "(I)V"⟩
abbrev cX4_swapAt : ByteArray := prog_1_method_26_code
def yX4_swapAt : MethodName := ⟨RX4, "swapAt", "(I)LResetline$Swap;"⟩
abbrev cX4_swapWithPeriod : ByteArray := prog_1_method_27_code
def yX4_swapWithPeriod : MethodName := ⟨RX4, "swapWithPeriod", "(II)LResetline$Swap;"⟩
abbrev cX4_rollAllTrades : ByteArray := prog_1_method_28_code
def yX4_rollAllTrades : MethodName := ⟨RX4, "rollAllTrades", "()V"⟩
abbrev cX4_cashOnDay : ByteArray := prog_1_method_29_code
def yX4_cashOnDay : MethodName := ⟨RX4, "cashOnDay", "(II)J"⟩
abbrev cX4_pressPair : ByteArray := prog_1_method_30_code
def yX4_pressPair : MethodName := ⟨RX4, "pressPair", "(LResetline$Swap;LResetline$Swap;I)I"⟩
def RX5 : String := "ResetlineModel"
def TX5 : u_T := fun k => match k with
  | _ => ("", "", "", false)
def tyX5 : Nat → FieldType := fun k => match k with
  | _ => .int
abbrev wsX50 : List Cond := u_ws RX5 TX5 0
theorem nmX5 : ∀ a, a < 0 → ∀ b, b < 0 → a ≠ b → (TX5 a).2.1 ≠ (TX5 b).2.1 := by decide +kernel
theorem tyX5_ok : ∀ k, k < 0 → parseFieldDescriptor (TX5 k).2.2.1 = some (tyX5 k) := by decide +kernel
def RJx145de : String := "java/io/Serializable"
def TJx145de : u_T := fun k => match k with
  | _ => ("", "", "", false)
def tyJx145de : Nat → FieldType := fun k => match k with
  | _ => .int
abbrev wsJx145de0 : List Cond := u_ws RJx145de TJx145de 0
theorem nmJx145de : ∀ a, a < 0 → ∀ b, b < 0 → a ≠ b → (TJx145de a).2.1 ≠ (TJx145de b).2.1 := by decide +kernel
theorem tyJx145de_ok : ∀ k, k < 0 → parseFieldDescriptor (TJx145de k).2.2.1 = some (tyJx145de k) := by decide +kernel
def RJx8e188 : String := "java/lang/Cloneable"
def TJx8e188 : u_T := fun k => match k with
  | _ => ("", "", "", false)
def tyJx8e188 : Nat → FieldType := fun k => match k with
  | _ => .int
abbrev wsJx8e1880 : List Cond := u_ws RJx8e188 TJx8e188 0
theorem nmJx8e188 : ∀ a, a < 0 → ∀ b, b < 0 → a ≠ b → (TJx8e188 a).2.1 ≠ (TJx8e188 b).2.1 := by decide +kernel
theorem tyJx8e188_ok : ∀ k, k < 0 → parseFieldDescriptor (TJx8e188 k).2.2.1 = some (tyJx8e188 k) := by decide +kernel
def RJxab1ab : String := "java/lang/Iterable"
def TJxab1ab : u_T := fun k => match k with
  | _ => ("", "", "", false)
def tyJxab1ab : Nat → FieldType := fun k => match k with
  | _ => .int
abbrev wsJxab1ab0 : List Cond := u_ws RJxab1ab TJxab1ab 0
theorem nmJxab1ab : ∀ a, a < 0 → ∀ b, b < 0 → a ≠ b → (TJxab1ab a).2.1 ≠ (TJxab1ab b).2.1 := by decide +kernel
theorem tyJxab1ab_ok : ∀ k, k < 0 → parseFieldDescriptor (TJxab1ab k).2.2.1 = some (tyJxab1ab k) := by decide +kernel
def RJ9 : String := "java/lang/Math"
def TJ9 : u_T := fun k => match k with
  | _ => ("", "", "", false)
def tyJ9 : Nat → FieldType := fun k => match k with
  | _ => .int
abbrev wsJ90 : List Cond := u_ws RJ9 TJ9 0
theorem nmJ9 : ∀ a, a < 0 → ∀ b, b < 0 → a ≠ b → (TJ9 a).2.1 ≠ (TJ9 b).2.1 := by decide +kernel
theorem tyJ9_ok : ∀ k, k < 0 → parseFieldDescriptor (TJ9 k).2.2.1 = some (tyJ9 k) := by decide +kernel
abbrev cJ9_floorDiv_f86c9 : ByteArray := prog_15_method_49_code
def yJ9_floorDiv_f86c9 : MethodName := ⟨RJ9, "floorDiv", "(JJ)J"⟩
abbrev cJ9_floorMod_7cf53 : ByteArray := prog_15_method_50_code
def yJ9_floorMod_7cf53 : MethodName := ⟨RJ9, "floorMod", "(II)I"⟩
abbrev cJ9_max_7cf53 : ByteArray := prog_15_method_65_code
def yJ9_max_7cf53 : MethodName := ⟨RJ9, "max", "(II)I"⟩
abbrev cJ9_min_7cf53 : ByteArray := prog_15_method_69_code
def yJ9_min_7cf53 : MethodName := ⟨RJ9, "min", "(II)I"⟩
def RJ0 : String := "java/lang/String"
def TJ0 : u_T := fun k => match k with
  | _ => ("", "", "", false)
def tyJ0 : Nat → FieldType := fun k => match k with
  | _ => .int
abbrev wsJ00 : List Cond := u_ws RJ0 TJ0 0
theorem nmJ0 : ∀ a, a < 0 → ∀ b, b < 0 → a ≠ b → (TJ0 a).2.1 ≠ (TJ0 b).2.1 := by decide +kernel
theorem tyJ0_ok : ∀ k, k < 0 → parseFieldDescriptor (TJ0 k).2.2.1 = some (tyJ0 k) := by decide +kernel
def RJ10 : String := "java/lang/System"
def TJ10 : u_T := fun k => match k with
  | _ => ("", "", "", false)
def tyJ10 : Nat → FieldType := fun k => match k with
  | _ => .int
abbrev wsJ100 : List Cond := u_ws RJ10 TJ10 0
theorem nmJ10 : ∀ a, a < 0 → ∀ b, b < 0 → a ≠ b → (TJ10 a).2.1 ≠ (TJ10 b).2.1 := by decide +kernel
theorem tyJ10_ok : ∀ k, k < 0 → parseFieldDescriptor (TJ10 k).2.2.1 = some (tyJ10 k) := by decide +kernel
def RJxa1e45 : String := "java/util/AbstractCollection"
def TJxa1e45 : u_T := fun k => match k with
  | _ => ("", "", "", false)
def tyJxa1e45 : Nat → FieldType := fun k => match k with
  | _ => .int
abbrev wsJxa1e450 : List Cond := u_ws RJxa1e45 TJxa1e45 0
theorem nmJxa1e45 : ∀ a, a < 0 → ∀ b, b < 0 → a ≠ b → (TJxa1e45 a).2.1 ≠ (TJxa1e45 b).2.1 := by decide +kernel
theorem tyJxa1e45_ok : ∀ k, k < 0 → parseFieldDescriptor (TJxa1e45 k).2.2.1 = some (tyJxa1e45 k) := by decide +kernel
abbrev cJxa1e45_init_da8c8 : ByteArray := prog_20_method_1_code
def yJxa1e45_init_da8c8 : MethodName := ⟨RJxa1e45, "<init>", "()V"⟩
def RJxc12de : String := "java/util/AbstractList"
def TJxc12de : u_T := fun k => match k with
  | _ => ("", "", "", false)
def tyJxc12de : Nat → FieldType := fun k => match k with
  | _ => .int
abbrev wsJxc12de0 : List Cond := u_ws RJxc12de TJxc12de 0
theorem nmJxc12de : ∀ a, a < 0 → ∀ b, b < 0 → a ≠ b → (TJxc12de a).2.1 ≠ (TJxc12de b).2.1 := by decide +kernel
theorem tyJxc12de_ok : ∀ k, k < 0 → parseFieldDescriptor (TJxc12de k).2.2.1 = some (tyJxc12de k) := by decide +kernel
abbrev cJxc12de_init_da8c8 : ByteArray := prog_21_method_1_code
def yJxc12de_init_da8c8 : MethodName := ⟨RJxc12de, "<init>", "()V"⟩
def RJx4a65c : String := "java/util/ArrayList"
def TJx4a65c : u_T := fun k => match k with
  | 0 => ("java/util/AbstractList", "modCount", "I", false)
  | 1 => ("java/util/ArrayList", "elementData", "[Ljava/lang/Object;", false)
  | _ => ("java/util/ArrayList", "size", "I", false)
def tyJx4a65c : Nat → FieldType := fun k => match k with
  | 0 => .int
  | 1 => .array (.object "java/lang/Object")
  | _ => .int
abbrev wsJx4a65c0 : List Cond := u_ws RJx4a65c TJx4a65c 3
theorem nmJx4a65c : ∀ a, a < 3 → ∀ b, b < 3 → a ≠ b → (TJx4a65c a).2.1 ≠ (TJx4a65c b).2.1 := by decide +kernel
theorem tyJx4a65c_ok : ∀ k, k < 3 → parseFieldDescriptor (TJx4a65c k).2.2.1 = some (tyJx4a65c k) := by decide +kernel
abbrev cJx4a65c_init_da8c8 : ByteArray := prog_22_method_2_code
def yJx4a65c_init_da8c8 : MethodName := ⟨RJx4a65c, "<init>", "()V"⟩
abbrev cJx4a65c_grow_92f84 : ByteArray := prog_22_method_6_code
def yJx4a65c_grow_92f84 : MethodName := ⟨RJx4a65c, "grow", "(I)[Ljava/lang/Object;"⟩
abbrev cJx4a65c_grow_d5877 : ByteArray := prog_22_method_7_code
def yJx4a65c_grow_d5877 : MethodName := ⟨RJx4a65c, "grow", "()[Ljava/lang/Object;"⟩
abbrev cJx4a65c_size_8abf5 : ByteArray := prog_22_method_8_code
def yJx4a65c_size_8abf5 : MethodName := ⟨RJx4a65c, "size", "()I"⟩
abbrev cJx4a65c_elementData_915e3 : ByteArray := prog_22_method_18_code
def yJx4a65c_elementData_915e3 : MethodName := ⟨RJx4a65c, "elementData", "(I)Ljava/lang/Object;"⟩
abbrev cJx4a65c_get_915e3 : ByteArray := prog_22_method_20_code
def yJx4a65c_get_915e3 : MethodName := ⟨RJx4a65c, "get", "(I)Ljava/lang/Object;"⟩
abbrev cJx4a65c_add_72be8 : ByteArray := prog_22_method_24_code
def yJx4a65c_add_72be8 : MethodName := ⟨RJx4a65c, "add", "(Ljava/lang/Object;[Ljava/lang/Object;I)V"⟩
abbrev cJx4a65c_add_9ea2d : ByteArray := prog_22_method_25_code
def yJx4a65c_add_9ea2d : MethodName := ⟨RJx4a65c, "add", "(Ljava/lang/Object;)Z"⟩
def RJ7 : String := "java/util/Arrays"
def TJ7 : u_T := fun k => match k with
  | _ => ("", "", "", false)
def tyJ7 : Nat → FieldType := fun k => match k with
  | _ => .int
abbrev wsJ70 : List Cond := u_ws RJ7 TJ7 0
theorem nmJ7 : ∀ a, a < 0 → ∀ b, b < 0 → a ≠ b → (TJ7 a).2.1 ≠ (TJ7 b).2.1 := by decide +kernel
theorem tyJ7_ok : ∀ k, k < 0 → parseFieldDescriptor (TJ7 k).2.2.1 = some (tyJ7 k) := by decide +kernel
abbrev cJ7_copyOf_1904c : ByteArray := prog_23_method_119_code
def yJ7_copyOf_1904c : MethodName := ⟨RJ7, "copyOf", "([Ljava/lang/Object;I)[Ljava/lang/Object;"⟩
abbrev cJ7_copyOf_6403c : ByteArray := prog_23_method_120_code
def yJ7_copyOf_6403c : MethodName := ⟨RJ7, "copyOf", "([Ljava/lang/Object;ILjava/lang/Class;)[Ljava/lang/Object;"⟩
def RJx5ef63 : String := "java/util/Collection"
def TJx5ef63 : u_T := fun k => match k with
  | _ => ("", "", "", false)
def tyJx5ef63 : Nat → FieldType := fun k => match k with
  | _ => .int
abbrev wsJx5ef630 : List Cond := u_ws RJx5ef63 TJx5ef63 0
theorem nmJx5ef63 : ∀ a, a < 0 → ∀ b, b < 0 → a ≠ b → (TJx5ef63 a).2.1 ≠ (TJx5ef63 b).2.1 := by decide +kernel
theorem tyJx5ef63_ok : ∀ k, k < 0 → parseFieldDescriptor (TJx5ef63 k).2.2.1 = some (tyJx5ef63 k) := by decide +kernel
def RJxbd725 : String := "java/util/List"
def TJxbd725 : u_T := fun k => match k with
  | _ => ("", "", "", false)
def tyJxbd725 : Nat → FieldType := fun k => match k with
  | _ => .int
abbrev wsJxbd7250 : List Cond := u_ws RJxbd725 TJxbd725 0
theorem nmJxbd725 : ∀ a, a < 0 → ∀ b, b < 0 → a ≠ b → (TJxbd725 a).2.1 ≠ (TJxbd725 b).2.1 := by decide +kernel
theorem tyJxbd725_ok : ∀ k, k < 0 → parseFieldDescriptor (TJxbd725 k).2.2.1 = some (tyJxbd725 k) := by decide +kernel
def RJ15 : String := "java/util/Objects"
def TJ15 : u_T := fun k => match k with
  | _ => ("", "", "", false)
def tyJ15 : Nat → FieldType := fun k => match k with
  | _ => .int
abbrev wsJ150 : List Cond := u_ws RJ15 TJ15 0
theorem nmJ15 : ∀ a, a < 0 → ∀ b, b < 0 → a ≠ b → (TJ15 a).2.1 ≠ (TJ15 b).2.1 := by decide +kernel
theorem tyJ15_ok : ∀ k, k < 0 → parseFieldDescriptor (TJ15 k).2.2.1 = some (tyJ15 k) := by decide +kernel
abbrev cJ15_checkIndex_7cf53 : ByteArray := prog_26_method_17_code
def yJ15_checkIndex_7cf53 : MethodName := ⟨RJ15, "checkIndex", "(II)I"⟩
def RJxf0a74 : String := "java/util/RandomAccess"
def TJxf0a74 : u_T := fun k => match k with
  | _ => ("", "", "", false)
def tyJxf0a74 : Nat → FieldType := fun k => match k with
  | _ => .int
abbrev wsJxf0a740 : List Cond := u_ws RJxf0a74 TJxf0a74 0
theorem nmJxf0a74 : ∀ a, a < 0 → ∀ b, b < 0 → a ≠ b → (TJxf0a74 a).2.1 ≠ (TJxf0a74 b).2.1 := by decide +kernel
theorem tyJxf0a74_ok : ∀ k, k < 0 → parseFieldDescriptor (TJxf0a74 k).2.2.1 = some (tyJxf0a74 k) := by decide +kernel
def RJxa66e6 : String := "java/util/SequencedCollection"
def TJxa66e6 : u_T := fun k => match k with
  | _ => ("", "", "", false)
def tyJxa66e6 : Nat → FieldType := fun k => match k with
  | _ => .int
abbrev wsJxa66e60 : List Cond := u_ws RJxa66e6 TJxa66e6 0
theorem nmJxa66e6 : ∀ a, a < 0 → ∀ b, b < 0 → a ≠ b → (TJxa66e6 a).2.1 ≠ (TJxa66e6 b).2.1 := by decide +kernel
theorem tyJxa66e6_ok : ∀ k, k < 0 → parseFieldDescriptor (TJxa66e6 k).2.2.1 = some (tyJxa66e6 k) := by decide +kernel
def RJ8 : String := "jdk/internal/util/ArraysSupport"
def TJ8 : u_T := fun k => match k with
  | _ => ("", "", "", false)
def tyJ8 : Nat → FieldType := fun k => match k with
  | _ => .int
abbrev wsJ80 : List Cond := u_ws RJ8 TJ8 0
theorem nmJ8 : ∀ a, a < 0 → ∀ b, b < 0 → a ≠ b → (TJ8 a).2.1 ≠ (TJ8 b).2.1 := by decide +kernel
theorem tyJ8_ok : ∀ k, k < 0 → parseFieldDescriptor (TJ8 k).2.2.1 = some (tyJ8 k) := by decide +kernel
abbrev cJ8_newLength_cabcc : ByteArray := prog_29_method_27_code
def yJ8_newLength_cabcc : MethodName := ⟨RJ8, "newLength", "(III)I"⟩
abbrev cJ8_hugeLength_7cf53 : ByteArray := prog_29_method_28_code
def yJ8_hugeLength_7cf53 : MethodName := ⟨RJ8, "hugeLength", "(II)I"⟩
def RJ3 : String := "jdk/internal/util/Preconditions"
def TJ3 : u_T := fun k => match k with
  | _ => ("", "", "", false)
def tyJ3 : Nat → FieldType := fun k => match k with
  | _ => .int
abbrev wsJ30 : List Cond := u_ws RJ3 TJ3 0
theorem nmJ3 : ∀ a, a < 0 → ∀ b, b < 0 → a ≠ b → (TJ3 a).2.1 ≠ (TJ3 b).2.1 := by decide +kernel
theorem tyJ3_ok : ∀ k, k < 0 → parseFieldDescriptor (TJ3 k).2.2.1 = some (tyJ3 k) := by decide +kernel
abbrev cJ3_checkIndex_8e157 : ByteArray := prog_30_method_11_code
def yJ3_checkIndex_8e157 : MethodName := ⟨RJ3, "checkIndex", "(IILjava/util/function/BiFunction;)I"⟩
def RL : String := "ResetlineLaw"
abbrev cL_cell : ByteArray := method_2_code
def yL_cell : MethodName := ⟨RL, "cell", "([II)I"⟩
abbrev cL_low : ByteArray := method_3_code
def yL_low : MethodName := ⟨RL, "low", "(II)I"⟩
abbrev cL_isCash : ByteArray := method_4_code
def yL_isCash : MethodName := ⟨RL, "isCash", "(LResetline;[III)Z"⟩
abbrev cL_isPressed : ByteArray := method_5_code
def yL_isPressed : MethodName := ⟨RL, "isPressed", "(LResetline;[III)Z"⟩
abbrev cL_law : ByteArray := code
def yL_law : MethodName := ⟨RL, "law", "([I)Z"⟩
abbrev cL_breaks : ByteArray := method_7_code
def yL_breaks : MethodName := ⟨RL, "breaks", "(LResetline;IIIII)Z"⟩
abbrev vwCl : List vw_C := [(RJx4a65c, TJx4a65c, 3), (RX0, TX0, 2), (RX1, TX1, 1), (RX2, TX2, 2), (RX3, TX3, 13), (RX4, TX4, 3)]
end
section
/-- the words that every method has: the good ones of the tables -/
def Tw : List Cond := lw_tbl.filter goodWord
theorem tw_of {w : Cond} (h : w ∈ tables_1) (hg : goodWord w = true) : w ∈ Tw := List.mem_filter.mpr ⟨List.mem_append_right _ h, hg⟩
theorem tw1 {w : Cond} (k : Nat) (h : tables_1_1[k]? = some w) (hg : goodWord w = true) : w ∈ Tw := tw_of (List.mem_append_left _ (List.mem_of_getElem? h)) hg
theorem tw2 {w : Cond} (k : Nat) (h : tables_1_2[k]? = some w) (hg : goodWord w = true) : w ∈ Tw := tw_of (List.mem_append_right _ (List.mem_append_left _ (List.mem_of_getElem? h))) hg
theorem tw3 {w : Cond} (k : Nat) (h : tables_1_3[k]? = some w) (hg : goodWord w = true) : w ∈ Tw := tw_of (List.mem_append_right _ (List.mem_append_right _ (List.mem_of_getElem? h))) hg
theorem tw_lw {w : Cond} (h : w ∈ Tw) : w ∈ lw_tbl := (List.mem_filter.mp h).1
theorem tw_good {w : Cond} (h : w ∈ Tw) : goodWord w = true := (List.mem_filter.mp h).2
theorem tw_priv {q : MethodName × Nat} (k : Nat) (h : lw_privs[k]? = some q) (hg : goodWord (Cond.selects q.1.cls q.1 q.1) = true) : Cond.selects q.1.cls q.1 q.1 ∈ Tw := List.mem_filter.mpr ⟨List.mem_append_left _ (List.mem_map.mpr ⟨q, List.mem_of_getElem? h, rfl⟩), hg⟩
theorem qw1_0 : Cond.initialized RL ∈ Tw := tw1 0 rfl rfl
theorem qw1_1 : Cond.initialized RX4 ∈ Tw := tw1 1 rfl rfl
theorem qw1_2 : Cond.initialized RX0 ∈ Tw := tw1 2 rfl rfl
theorem qw1_3 : Cond.initialized RX1 ∈ Tw := tw1 3 rfl rfl
theorem qw1_4 : Cond.initialized RJxa1e45 ∈ Tw := tw1 4 rfl rfl
theorem qw1_5 : Cond.initialized RJxc12de ∈ Tw := tw1 5 rfl rfl
theorem qw1_6 : Cond.initialized RJx4a65c ∈ Tw := tw1 6 rfl rfl
theorem qw1_7 : Cond.initialized "java/lang/Throwable" ∈ Tw := tw1 7 rfl rfl
theorem qw1_8 : Cond.initialized "java/lang/Exception" ∈ Tw := tw1 8 rfl rfl
theorem qw1_9 : Cond.initialized "java/lang/RuntimeException" ∈ Tw := tw1 9 rfl rfl
theorem qw1_10 : Cond.initialized "java/lang/IndexOutOfBoundsException" ∈ Tw := tw1 10 rfl rfl
theorem qw1_11 : Cond.initialized "java/lang/IllegalArgumentException" ∈ Tw := tw1 11 rfl rfl
theorem qw1_12 : Cond.initialized "java/lang/IllegalStateException" ∈ Tw := tw1 12 rfl rfl
theorem qw1_13 : Cond.initialized RX3 ∈ Tw := tw1 13 rfl rfl
theorem qw1_14 : Cond.initialized RJ9 ∈ Tw := tw1 14 rfl rfl
theorem qw1_15 : Cond.initialized RJ15 ∈ Tw := tw1 15 rfl rfl
theorem qw1_16 : Cond.initialized RJ3 ∈ Tw := tw1 16 rfl rfl
theorem qw1_17 : Cond.initialized RJ8 ∈ Tw := tw1 17 rfl rfl
theorem qw1_18 : Cond.initialized RJ7 ∈ Tw := tw1 18 rfl rfl
theorem qw1_19 : Cond.initialized RJ10 ∈ Tw := tw1 19 rfl rfl
theorem qw1_20 : Cond.initialized RX2 ∈ Tw := tw1 20 rfl rfl
theorem qw1_21 : Cond.classLink RL 9 RX4 ∈ Tw := tw1 21 rfl rfl
theorem qw1_22 : Cond.instantiable RX4 3 ∈ Tw := tw1 22 rfl rfl
theorem qw1_23 : Cond.methodLink RL 45 yX4_init ∈ Tw := tw1 23 rfl rfl
theorem qw1_24 : Cond.instanceMethod yX4_init ∈ Tw := tw1 24 rfl rfl
theorem qw1_25 : Cond.code yX4_init cX4_init 1 (none : Option FieldType) ∈ Tw := tw1 25 rfl rfl
theorem qw1_26 : Cond.methodLink RX4 1 ⟨"java/lang/Object", "<init>", "()V"⟩ ∈ Tw := tw1 26 rfl rfl
theorem qw1_27 : Cond.instanceMethod ⟨"java/lang/Object", "<init>", "()V"⟩ ∈ Tw := tw1 27 rfl rfl
theorem qw1_28 : Cond.code ⟨"java/lang/Object", "<init>", "()V"⟩ object_method_1_code 1 (none : Option FieldType) ∈ Tw := tw1 28 rfl rfl
theorem qw1_29 : Cond.classLink RX4 7 RX0 ∈ Tw := tw1 29 rfl rfl
theorem qw1_30 : Cond.instantiable RX0 2 ∈ Tw := tw1 30 rfl rfl
theorem qw1_31 : Cond.methodLink RX4 9 yX0_init ∈ Tw := tw1 31 rfl rfl
theorem qw1_32 : Cond.instanceMethod yX0_init ∈ Tw := tw1 32 rfl rfl
theorem qw1_33 : Cond.code yX0_init cX0_init 1 (none : Option FieldType) ∈ Tw := tw1 33 rfl rfl
theorem qw1_34 : Cond.methodLink RX0 3 ⟨"java/lang/Object", "<init>", "()V"⟩ ∈ Tw := tw1 34 rfl rfl
theorem qw1_35 : Cond.classLink RX0 9 RX1 ∈ Tw := tw1 35 rfl rfl
theorem qw1_36 : Cond.instantiable RX1 1 ∈ Tw := tw1 36 rfl rfl
theorem qw1_37 : Cond.methodLink RX0 11 yX1_init ∈ Tw := tw1 37 rfl rfl
theorem qw1_38 : Cond.instanceMethod yX1_init ∈ Tw := tw1 38 rfl rfl
theorem qw1_39 : Cond.code yX1_init cX1_init 1 (none : Option FieldType) ∈ Tw := tw1 39 rfl rfl
theorem qw1_40 : Cond.methodLink RX1 3 ⟨"java/lang/Object", "<init>", "()V"⟩ ∈ Tw := tw1 40 rfl rfl
theorem qw1_41 : Cond.classLink RX1 9 RJx4a65c ∈ Tw := tw1 41 rfl rfl
theorem qw1_42 : Cond.instantiable RJx4a65c 3 ∈ Tw := tw1 42 rfl rfl
theorem qw1_43 : Cond.methodLink RX1 11 yJx4a65c_init_da8c8 ∈ Tw := tw1 43 rfl rfl
theorem qw1_44 : Cond.instanceMethod yJx4a65c_init_da8c8 ∈ Tw := tw1 44 rfl rfl
theorem qw1_45 : Cond.code yJx4a65c_init_da8c8 cJx4a65c_init_da8c8 1 (none : Option FieldType) ∈ Tw := tw1 45 rfl rfl
theorem qw1_46 : Cond.methodLink RJx4a65c 1 yJxc12de_init_da8c8 ∈ Tw := tw1 46 rfl rfl
theorem qw1_47 : Cond.instanceMethod yJxc12de_init_da8c8 ∈ Tw := tw1 47 rfl rfl
theorem qw1_48 : Cond.code yJxc12de_init_da8c8 cJxc12de_init_da8c8 1 (none : Option FieldType) ∈ Tw := tw1 48 rfl rfl
theorem qw1_49 : Cond.methodLink RJxc12de 1 yJxa1e45_init_da8c8 ∈ Tw := tw1 49 rfl rfl
theorem qw1_50 : Cond.instanceMethod yJxa1e45_init_da8c8 ∈ Tw := tw1 50 rfl rfl
theorem qw1_51 : Cond.code yJxa1e45_init_da8c8 cJxa1e45_init_da8c8 1 (none : Option FieldType) ∈ Tw := tw1 51 rfl rfl
theorem qw1_52 : Cond.methodLink RJxa1e45 1 ⟨"java/lang/Object", "<init>", "()V"⟩ ∈ Tw := tw1 52 rfl rfl
theorem qw1_53 : Cond.fieldLink RJx4a65c 39 RJx4a65c "DEFAULTCAPACITY_EMPTY_ELEMENTDATA" "[Ljava/lang/Object;" ∈ Tw := tw1 53 rfl rfl
theorem qw1_55 : Cond.fieldLink RJx4a65c 9 RJx4a65c "elementData" "[Ljava/lang/Object;" ∈ Tw := tw1 55 rfl rfl
theorem qw1_56 : Cond.fieldLink RJx4a65c 48 RJx4a65c "size" "I" ∈ Tw := tw1 56 rfl rfl
theorem qw1_57 : Cond.fieldLink RJxc12de 7 RJxc12de "modCount" "I" ∈ Tw := tw1 57 rfl rfl
theorem qw1_58 : Cond.fieldLink RJx4a65c 63 RJx4a65c "modCount" "I" ∈ Tw := tw1 58 rfl rfl
theorem qw1_59 : Cond.sameField RJx4a65c RJxc12de "modCount" "I" ∈ Tw := tw1 59 rfl rfl
theorem qw1_60 : Cond.lays RJx4a65c RJx4a65c "elementData" "[Ljava/lang/Object;" ∈ Tw := tw1 60 rfl rfl
theorem qw1_62 : Cond.lays RJx4a65c RJx4a65c "size" "I" ∈ Tw := tw1 62 rfl rfl
theorem qw1_64 : Cond.lays RJx4a65c RJxc12de "modCount" "I" ∈ Tw := tw1 64 rfl rfl
theorem qw1_67 : Cond.fieldLink RX1 12 RX1 "entries" "Ljava/util/ArrayList;" ∈ Tw := tw1 67 rfl rfl
theorem qw1_68 : Cond.laysFinal RX1 RX1 "entries" "Ljava/util/ArrayList;" ∈ Tw := tw1 68 rfl rfl
theorem qw1_71 : Cond.fieldLink RX0 12 RX0 "firstTown" "LResetline$Diary;" ∈ Tw := tw1 71 rfl rfl
theorem qw1_72 : Cond.fieldLink RX0 18 RX0 "secondTown" "LResetline$Diary;" ∈ Tw := tw1 72 rfl rfl
theorem qw1_73 : Cond.laysFinal RX0 RX0 "firstTown" "LResetline$Diary;" ∈ Tw := tw1 73 rfl rfl
theorem qw1_75 : Cond.laysFinal RX0 RX0 "secondTown" "LResetline$Diary;" ∈ Tw := tw1 75 rfl rfl
theorem qw1_78 : Cond.classLink RX4 16 RX1 ∈ Tw := tw1 78 rfl rfl
theorem qw1_79 : Cond.methodLink RX4 18 yX1_init ∈ Tw := tw1 79 rfl rfl
theorem qw1_80 : Cond.classLink RX4 23 RJx4a65c ∈ Tw := tw1 80 rfl rfl
theorem qw1_81 : Cond.methodLink RX4 25 yJx4a65c_init_da8c8 ∈ Tw := tw1 81 rfl rfl
theorem qw1_82 : Cond.fieldLink RX4 10 RX4 "calendar" "LResetline$Calendar;" ∈ Tw := tw1 82 rfl rfl
theorem qw1_83 : Cond.fieldLink RX4 19 RX4 "fixings" "LResetline$Diary;" ∈ Tw := tw1 83 rfl rfl
theorem qw1_84 : Cond.fieldLink RX4 26 RX4 "book" "Ljava/util/ArrayList;" ∈ Tw := tw1 84 rfl rfl
theorem qw1_85 : Cond.laysFinal RX4 RX4 "calendar" "LResetline$Calendar;" ∈ Tw := tw1 85 rfl rfl
theorem qw1_87 : Cond.laysFinal RX4 RX4 "fixings" "LResetline$Diary;" ∈ Tw := tw1 87 rfl rfl
theorem qw1_89 : Cond.laysFinal RX4 RX4 "book" "Ljava/util/ArrayList;" ∈ Tw := tw1 89 rfl rfl
theorem qw1_92 : Cond.methodLink RL 66 yX4_holiday ∈ Tw := tw1 92 rfl rfl
theorem qw1_93 : Cond.instanceMethod yX4_holiday ∈ Tw := tw1 93 rfl rfl
theorem qw1_94 : Cond.selects RX4 yX4_holiday yX4_holiday ∈ Tw := tw1 94 rfl rfl
theorem qw1_95 : Cond.code yX4_holiday cX4_holiday 4 (some FieldType.int) ∈ Tw := tw1 95 rfl rfl
theorem qw1_96 : Cond.classLink RX4 30 "java/lang/IndexOutOfBoundsException" ∈ Tw := tw1 96 rfl rfl
theorem qw1_97 : Cond.instantiable "java/lang/IndexOutOfBoundsException" 6 ∈ Tw := tw1 97 rfl rfl
theorem qw1_105 : Cond.selects "java/lang/IndexOutOfBoundsException" ⟨"java/lang/Throwable", "fillInStackTrace", "(I)Ljava/lang/Throwable;"⟩ ⟨"java/lang/Throwable", "fillInStackTrace", "(I)Ljava/lang/Throwable;"⟩ ∈ Tw := tw1 105 rfl rfl
theorem qw1_106 : Cond.selects "java/lang/IndexOutOfBoundsException" ⟨"java/lang/Throwable", "fillInStackTrace", "()Ljava/lang/Throwable;"⟩ ⟨"java/lang/Throwable", "fillInStackTrace", "()Ljava/lang/Throwable;"⟩ ∈ Tw := tw1 106 rfl rfl
theorem qw1_107 : Cond.lays "java/lang/IndexOutOfBoundsException" "java/lang/Throwable" "cause" "Ljava/lang/Throwable;" ∈ Tw := tw1 107 rfl rfl
theorem qw1_108 : Cond.lays "java/lang/Throwable" "java/lang/Throwable" "cause" "Ljava/lang/Throwable;" ∈ Tw := tw1 108 rfl rfl
theorem qw1_109 : Cond.lays "java/lang/IndexOutOfBoundsException" "java/lang/Throwable" "stackTrace" "[Ljava/lang/StackTraceElement;" ∈ Tw := tw1 109 rfl rfl
theorem qw1_110 : Cond.lays "java/lang/Throwable" "java/lang/Throwable" "stackTrace" "[Ljava/lang/StackTraceElement;" ∈ Tw := tw1 110 rfl rfl
theorem qw1_111 : Cond.lays "java/lang/IndexOutOfBoundsException" "java/lang/Throwable" "suppressedExceptions" "Ljava/util/List;" ∈ Tw := tw1 111 rfl rfl
theorem qw1_112 : Cond.lays "java/lang/Throwable" "java/lang/Throwable" "suppressedExceptions" "Ljava/util/List;" ∈ Tw := tw1 112 rfl rfl
theorem qw1_113 : Cond.lays "java/lang/IndexOutOfBoundsException" "java/lang/Throwable" "detailMessage" "Ljava/lang/String;" ∈ Tw := tw1 113 rfl rfl
theorem qw1_114 : Cond.lays "java/lang/Throwable" "java/lang/Throwable" "detailMessage" "Ljava/lang/String;" ∈ Tw := tw1 114 rfl rfl
theorem qw1_115 : Cond.lays "java/lang/IndexOutOfBoundsException" "java/lang/Throwable" "backtrace" "Ljava/lang/Object;" ∈ Tw := tw1 115 rfl rfl
theorem qw1_116 : Cond.lays "java/lang/Throwable" "java/lang/Throwable" "backtrace" "Ljava/lang/Object;" ∈ Tw := tw1 116 rfl rfl
theorem qw1_117 : Cond.fieldLink "java/lang/Throwable" 198 "java/lang/Throwable" "backtrace" "Ljava/lang/Object;" ∈ Tw := tw1 117 rfl rfl
theorem qw1_119 : Cond.instanceMethod ⟨"java/lang/Throwable", "<init>", "()V"⟩ ∈ Tw := tw1 119 rfl rfl
theorem qw1_120 : Cond.code ⟨"java/lang/Throwable", "<init>", "()V"⟩ prog_19_method_1_code 1 (none : Option FieldType) ∈ Tw := tw1 120 rfl rfl
theorem qw1_121 : Cond.methodLink "java/lang/Throwable" 1 ⟨"java/lang/Object", "<init>", "()V"⟩ ∈ Tw := tw1 121 rfl rfl
theorem qw1_122 : Cond.fieldLink "java/lang/Throwable" 13 "java/lang/Throwable" "UNASSIGNED_STACK" "[Ljava/lang/StackTraceElement;" ∈ Tw := tw1 122 rfl rfl
theorem qw1_124 : Cond.fieldLink "java/lang/Throwable" 20 "java/lang/Throwable" "SUPPRESSED_SENTINEL" "Ljava/util/List;" ∈ Tw := tw1 124 rfl rfl
theorem qw1_126 : Cond.methodLink "java/lang/Throwable" 27 ⟨"java/lang/Throwable", "fillInStackTrace", "()Ljava/lang/Throwable;"⟩ ∈ Tw := tw1 126 rfl rfl
theorem qw1_127 : Cond.instanceMethod ⟨"java/lang/Throwable", "fillInStackTrace", "()Ljava/lang/Throwable;"⟩ ∈ Tw := tw1 127 rfl rfl
theorem qw1_129 : Cond.selects "java/lang/IllegalArgumentException" ⟨"java/lang/Throwable", "fillInStackTrace", "()Ljava/lang/Throwable;"⟩ ⟨"java/lang/Throwable", "fillInStackTrace", "()Ljava/lang/Throwable;"⟩ ∈ Tw := tw1 129 rfl rfl
theorem qw1_130 : Cond.selects "java/lang/IllegalStateException" ⟨"java/lang/Throwable", "fillInStackTrace", "()Ljava/lang/Throwable;"⟩ ⟨"java/lang/Throwable", "fillInStackTrace", "()Ljava/lang/Throwable;"⟩ ∈ Tw := tw1 130 rfl rfl
theorem qw1_132 : Cond.methodLink "java/lang/Throwable" 202 ⟨"java/lang/Throwable", "fillInStackTrace", "(I)Ljava/lang/Throwable;"⟩ ∈ Tw := tw1 132 rfl rfl
theorem qw1_134 : Cond.instanceMethod ⟨"java/lang/Throwable", "fillInStackTrace", "(I)Ljava/lang/Throwable;"⟩ ∈ Tw := tw1 134 rfl rfl
theorem qw1_135 : Cond.instantiable "java/lang/Throwable" 6 ∈ Tw := tw1 135 rfl rfl
theorem qw1_138 : Cond.methodLink RX4 34 ⟨"java/lang/IndexOutOfBoundsException", "<init>", "(Ljava/lang/String;)V"⟩ ∈ Tw := tw1 138 rfl rfl
theorem qw1_139 : Cond.instanceMethod ⟨"java/lang/IndexOutOfBoundsException", "<init>", "(Ljava/lang/String;)V"⟩ ∈ Tw := tw1 139 rfl rfl
theorem qw1_140 : Cond.code ⟨"java/lang/IndexOutOfBoundsException", "<init>", "(Ljava/lang/String;)V"⟩ prog_13_method_2_code 2 (none : Option FieldType) ∈ Tw := tw1 140 rfl rfl
theorem qw1_141 : Cond.methodLink "java/lang/IndexOutOfBoundsException" 7 ⟨"java/lang/RuntimeException", "<init>", "(Ljava/lang/String;)V"⟩ ∈ Tw := tw1 141 rfl rfl
theorem qw1_142 : Cond.instanceMethod ⟨"java/lang/RuntimeException", "<init>", "(Ljava/lang/String;)V"⟩ ∈ Tw := tw1 142 rfl rfl
theorem qw1_143 : Cond.code ⟨"java/lang/RuntimeException", "<init>", "(Ljava/lang/String;)V"⟩ prog_16_method_2_code 2 (none : Option FieldType) ∈ Tw := tw1 143 rfl rfl
theorem qw1_144 : Cond.methodLink "java/lang/RuntimeException" 7 ⟨"java/lang/Exception", "<init>", "(Ljava/lang/String;)V"⟩ ∈ Tw := tw1 144 rfl rfl
theorem qw1_145 : Cond.instanceMethod ⟨"java/lang/Exception", "<init>", "(Ljava/lang/String;)V"⟩ ∈ Tw := tw1 145 rfl rfl
theorem qw1_146 : Cond.code ⟨"java/lang/Exception", "<init>", "(Ljava/lang/String;)V"⟩ prog_10_method_2_code 2 (none : Option FieldType) ∈ Tw := tw1 146 rfl rfl
theorem qw1_147 : Cond.methodLink "java/lang/Exception" 7 ⟨"java/lang/Throwable", "<init>", "(Ljava/lang/String;)V"⟩ ∈ Tw := tw1 147 rfl rfl
theorem qw1_148 : Cond.instanceMethod ⟨"java/lang/Throwable", "<init>", "(Ljava/lang/String;)V"⟩ ∈ Tw := tw1 148 rfl rfl
theorem qw1_149 : Cond.code ⟨"java/lang/Throwable", "<init>", "(Ljava/lang/String;)V"⟩ prog_19_method_2_code 2 (none : Option FieldType) ∈ Tw := tw1 149 rfl rfl
theorem qw1_150 : Cond.fieldLink "java/lang/Throwable" 198 "java/lang/Throwable" "backtrace" "Ljava/lang/Object;" ∈ Tw := tw1 150 rfl rfl
theorem qw1_151 : Cond.fieldLink "java/lang/Throwable" 31 "java/lang/Throwable" "detailMessage" "Ljava/lang/String;" ∈ Tw := tw1 151 rfl rfl
theorem qw1_152 : Cond.fieldLink "java/lang/Throwable" 7 "java/lang/Throwable" "cause" "Ljava/lang/Throwable;" ∈ Tw := tw1 152 rfl rfl
theorem qw1_153 : Cond.fieldLink "java/lang/Throwable" 17 "java/lang/Throwable" "stackTrace" "[Ljava/lang/StackTraceElement;" ∈ Tw := tw1 153 rfl rfl
theorem qw1_154 : Cond.fieldLink "java/lang/Throwable" 24 "java/lang/Throwable" "suppressedExceptions" "Ljava/util/List;" ∈ Tw := tw1 154 rfl rfl
theorem qw1_159 : Cond.lays "java/lang/IndexOutOfBoundsException" "java/lang/Throwable" "depth" "I" ∈ Tw := tw1 159 rfl rfl
theorem qw1_163 : Cond.arrayClass FieldType.byte ∈ Tw := tw1 163 rfl rfl
theorem qw1_164 : Cond.methodLink RX4 37 yX4_checkRange ∈ Tw := tw1 164 rfl rfl
theorem qw1_165 : Cond.static yX4_checkRange ∈ Tw := tw1 165 rfl rfl
theorem qw1_166 : Cond.code yX4_checkRange cX4_checkRange 3 (none : Option FieldType) ∈ Tw := tw1 166 rfl rfl
theorem qw1_167 : Cond.classLink RX4 176 "java/lang/IllegalArgumentException" ∈ Tw := tw1 167 rfl rfl
theorem qw1_168 : Cond.instantiable "java/lang/IllegalArgumentException" 6 ∈ Tw := tw1 168 rfl rfl
theorem qw1_170 : Cond.selects "java/lang/IllegalArgumentException" ⟨"java/lang/Throwable", "fillInStackTrace", "(I)Ljava/lang/Throwable;"⟩ ⟨"java/lang/Throwable", "fillInStackTrace", "(I)Ljava/lang/Throwable;"⟩ ∈ Tw := tw1 170 rfl rfl
theorem qw1_171 : Cond.lays "java/lang/IllegalArgumentException" "java/lang/Throwable" "cause" "Ljava/lang/Throwable;" ∈ Tw := tw1 171 rfl rfl
theorem qw1_172 : Cond.lays "java/lang/IllegalArgumentException" "java/lang/Throwable" "stackTrace" "[Ljava/lang/StackTraceElement;" ∈ Tw := tw1 172 rfl rfl
theorem qw1_173 : Cond.lays "java/lang/IllegalArgumentException" "java/lang/Throwable" "suppressedExceptions" "Ljava/util/List;" ∈ Tw := tw1 173 rfl rfl
theorem qw1_174 : Cond.lays "java/lang/IllegalArgumentException" "java/lang/Throwable" "detailMessage" "Ljava/lang/String;" ∈ Tw := tw1 174 rfl rfl
theorem qw1_175 : Cond.lays "java/lang/IllegalArgumentException" "java/lang/Throwable" "backtrace" "Ljava/lang/Object;" ∈ Tw := tw1 175 rfl rfl
theorem qw1_177 : Cond.methodLink RX4 180 ⟨"java/lang/IllegalArgumentException", "<init>", "(Ljava/lang/String;)V"⟩ ∈ Tw := tw1 177 rfl rfl
theorem qw1_178 : Cond.instanceMethod ⟨"java/lang/IllegalArgumentException", "<init>", "(Ljava/lang/String;)V"⟩ ∈ Tw := tw1 178 rfl rfl
theorem qw1_179 : Cond.code ⟨"java/lang/IllegalArgumentException", "<init>", "(Ljava/lang/String;)V"⟩ prog_11_method_2_code 2 (none : Option FieldType) ∈ Tw := tw1 179 rfl rfl
theorem qw1_180 : Cond.methodLink "java/lang/IllegalArgumentException" 7 ⟨"java/lang/RuntimeException", "<init>", "(Ljava/lang/String;)V"⟩ ∈ Tw := tw1 180 rfl rfl
theorem qw1_181 : Cond.lays "java/lang/IllegalArgumentException" "java/lang/Throwable" "depth" "I" ∈ Tw := tw1 181 rfl rfl
theorem qw1_183 : Cond.methodLink RX4 41 yX0_holidaysOf ∈ Tw := tw1 183 rfl rfl
theorem qw1_184 : Cond.instanceMethod yX0_holidaysOf ∈ Tw := tw1 184 rfl rfl
theorem qw1_185 : Cond.selects RX0 yX0_holidaysOf yX0_holidaysOf ∈ Tw := tw1 185 rfl rfl
theorem qw1_186 : Cond.code yX0_holidaysOf cX0_holidaysOf 2 (some (FieldType.object RX1)) ∈ Tw := tw1 186 rfl rfl
theorem qw1_187 : Cond.methodLink RX4 45 yX1_count ∈ Tw := tw1 187 rfl rfl
theorem qw1_188 : Cond.instanceMethod yX1_count ∈ Tw := tw1 188 rfl rfl
theorem qw1_189 : Cond.selects RX1 yX1_count yX1_count ∈ Tw := tw1 189 rfl rfl
theorem qw1_190 : Cond.code yX1_count cX1_count 1 (some FieldType.int) ∈ Tw := tw1 190 rfl rfl
theorem qw1_191 : Cond.methodLink RX1 18 yJx4a65c_size_8abf5 ∈ Tw := tw1 191 rfl rfl
theorem qw1_192 : Cond.instanceMethod yJx4a65c_size_8abf5 ∈ Tw := tw1 192 rfl rfl
theorem qw1_193 : Cond.selects RJx4a65c yJx4a65c_size_8abf5 yJx4a65c_size_8abf5 ∈ Tw := tw1 193 rfl rfl
theorem qw1_194 : Cond.code yJx4a65c_size_8abf5 cJx4a65c_size_8abf5 1 (some FieldType.int) ∈ Tw := tw1 194 rfl rfl
theorem qw1_195 : Cond.methodLink RX4 49 yX1_has ∈ Tw := tw1 195 rfl rfl
theorem qw1_196 : Cond.instanceMethod yX1_has ∈ Tw := tw1 196 rfl rfl
theorem qw1_197 : Cond.selects RX1 yX1_has yX1_has ∈ Tw := tw1 197 rfl rfl
theorem qw1_198 : Cond.code yX1_has cX1_has 2 (some FieldType.boolean) ∈ Tw := tw1 198 rfl rfl
theorem qw1_199 : Cond.methodLink RX1 22 yX1_entryOf ∈ Tw := tw1 199 rfl rfl
theorem qw1_201 : Cond.instanceMethod yX1_entryOf ∈ Tw := tw1 201 rfl rfl
theorem qw1_202 : Cond.code yX1_entryOf cX1_entryOf 4 (some (FieldType.object RX2)) ∈ Tw := tw1 202 rfl rfl
theorem qw1_203 : Cond.methodLink RX1 41 yJx4a65c_get_915e3 ∈ Tw := tw1 203 rfl rfl
theorem qw1_204 : Cond.instanceMethod yJx4a65c_get_915e3 ∈ Tw := tw1 204 rfl rfl
theorem qw1_205 : Cond.selects RJx4a65c yJx4a65c_get_915e3 yJx4a65c_get_915e3 ∈ Tw := tw1 205 rfl rfl
theorem qw1_206 : Cond.code yJx4a65c_get_915e3 cJx4a65c_get_915e3 2 (some (FieldType.object "java/lang/Object")) ∈ Tw := tw1 206 rfl rfl
theorem qw1_207 : Cond.methodLink RJx4a65c 118 yJ15_checkIndex_7cf53 ∈ Tw := tw1 207 rfl rfl
theorem qw1_208 : Cond.static yJ15_checkIndex_7cf53 ∈ Tw := tw1 208 rfl rfl
theorem qw1_209 : Cond.code yJ15_checkIndex_7cf53 cJ15_checkIndex_7cf53 2 (some FieldType.int) ∈ Tw := tw1 209 rfl rfl
theorem qw1_210 : Cond.methodLink RJ15 105 yJ3_checkIndex_8e157 ∈ Tw := tw1 210 rfl rfl
theorem qw1_211 : Cond.static yJ3_checkIndex_8e157 ∈ Tw := tw1 211 rfl rfl
theorem qw1_212 : Cond.code yJ3_checkIndex_8e157 cJ3_checkIndex_8e157 3 (some FieldType.int) ∈ Tw := tw1 212 rfl rfl
theorem qw1_213 : Cond.methodLink RJx4a65c 123 yJx4a65c_elementData_915e3 ∈ Tw := tw1 213 rfl rfl
theorem qw1_214 : Cond.instanceMethod yJx4a65c_elementData_915e3 ∈ Tw := tw1 214 rfl rfl
theorem qw1_215 : Cond.selects RJx4a65c yJx4a65c_elementData_915e3 yJx4a65c_elementData_915e3 ∈ Tw := tw1 215 rfl rfl
theorem qw1_216 : Cond.code yJx4a65c_elementData_915e3 cJx4a65c_elementData_915e3 2 (some (FieldType.object "java/lang/Object")) ∈ Tw := tw1 216 rfl rfl
theorem qw1_217 : Cond.classLink RX1 26 RX2 ∈ Tw := tw1 217 rfl rfl
theorem qw1_218 : Cond.classLink RX4 53 "java/lang/IllegalStateException" ∈ Tw := tw1 218 rfl rfl
theorem qw1_219 : Cond.instantiable "java/lang/IllegalStateException" 6 ∈ Tw := tw1 219 rfl rfl
theorem qw1_221 : Cond.selects "java/lang/IllegalStateException" ⟨"java/lang/Throwable", "fillInStackTrace", "(I)Ljava/lang/Throwable;"⟩ ⟨"java/lang/Throwable", "fillInStackTrace", "(I)Ljava/lang/Throwable;"⟩ ∈ Tw := tw1 221 rfl rfl
theorem qw1_222 : Cond.lays "java/lang/IllegalStateException" "java/lang/Throwable" "cause" "Ljava/lang/Throwable;" ∈ Tw := tw1 222 rfl rfl
theorem qw1_223 : Cond.lays "java/lang/IllegalStateException" "java/lang/Throwable" "stackTrace" "[Ljava/lang/StackTraceElement;" ∈ Tw := tw1 223 rfl rfl
theorem qw1_224 : Cond.lays "java/lang/IllegalStateException" "java/lang/Throwable" "suppressedExceptions" "Ljava/util/List;" ∈ Tw := tw1 224 rfl rfl
theorem qw1_225 : Cond.lays "java/lang/IllegalStateException" "java/lang/Throwable" "detailMessage" "Ljava/lang/String;" ∈ Tw := tw1 225 rfl rfl
theorem qw1_226 : Cond.lays "java/lang/IllegalStateException" "java/lang/Throwable" "backtrace" "Ljava/lang/Object;" ∈ Tw := tw1 226 rfl rfl
theorem qw1_228 : Cond.methodLink RX4 57 ⟨"java/lang/IllegalStateException", "<init>", "(Ljava/lang/String;)V"⟩ ∈ Tw := tw1 228 rfl rfl
theorem qw1_229 : Cond.instanceMethod ⟨"java/lang/IllegalStateException", "<init>", "(Ljava/lang/String;)V"⟩ ∈ Tw := tw1 229 rfl rfl
theorem qw1_230 : Cond.code ⟨"java/lang/IllegalStateException", "<init>", "(Ljava/lang/String;)V"⟩ prog_12_method_2_code 2 (none : Option FieldType) ∈ Tw := tw1 230 rfl rfl
theorem qw1_231 : Cond.methodLink "java/lang/IllegalStateException" 7 ⟨"java/lang/RuntimeException", "<init>", "(Ljava/lang/String;)V"⟩ ∈ Tw := tw1 231 rfl rfl
theorem qw1_232 : Cond.lays "java/lang/IllegalStateException" "java/lang/Throwable" "depth" "I" ∈ Tw := tw1 232 rfl rfl
theorem qw1_234 : Cond.methodLink RX4 58 yX1_add ∈ Tw := tw1 234 rfl rfl
theorem qw1_235 : Cond.instanceMethod yX1_add ∈ Tw := tw1 235 rfl rfl
theorem qw1_236 : Cond.selects RX1 yX1_add yX1_add ∈ Tw := tw1 236 rfl rfl
theorem qw1_237 : Cond.code yX1_add cX1_add 3 (none : Option FieldType) ∈ Tw := tw1 237 rfl rfl
theorem qw1_238 : Cond.instantiable RX2 2 ∈ Tw := tw1 238 rfl rfl
theorem qw1_239 : Cond.methodLink RX1 28 yX2_init ∈ Tw := tw1 239 rfl rfl
theorem qw2_0 : Cond.instanceMethod yX2_init ∈ Tw := tw2 0 rfl rfl
theorem qw2_1 : Cond.code yX2_init cX2_init 3 (none : Option FieldType) ∈ Tw := tw2 1 rfl rfl
theorem qw2_2 : Cond.methodLink RX2 1 ⟨"java/lang/Object", "<init>", "()V"⟩ ∈ Tw := tw2 2 rfl rfl
theorem qw2_3 : Cond.fieldLink RX2 7 RX2 "day" "I" ∈ Tw := tw2 3 rfl rfl
theorem qw2_4 : Cond.fieldLink RX1 45 RX2 "day" "I" ∈ Tw := tw2 4 rfl rfl
theorem qw2_5 : Cond.fieldLink RX2 13 RX2 "value" "I" ∈ Tw := tw2 5 rfl rfl
theorem qw2_6 : Cond.fieldLink RX1 37 RX2 "value" "I" ∈ Tw := tw2 6 rfl rfl
theorem qw2_7 : Cond.laysFinal RX2 RX2 "day" "I" ∈ Tw := tw2 7 rfl rfl
theorem qw2_9 : Cond.lays RX2 RX2 "value" "I" ∈ Tw := tw2 9 rfl rfl
theorem qw2_12 : Cond.methodLink RX1 31 yJx4a65c_add_9ea2d ∈ Tw := tw2 12 rfl rfl
theorem qw2_13 : Cond.instanceMethod yJx4a65c_add_9ea2d ∈ Tw := tw2 13 rfl rfl
theorem qw2_14 : Cond.selects RJx4a65c yJx4a65c_add_9ea2d yJx4a65c_add_9ea2d ∈ Tw := tw2 14 rfl rfl
theorem qw2_15 : Cond.code yJx4a65c_add_9ea2d cJx4a65c_add_9ea2d 2 (some FieldType.boolean) ∈ Tw := tw2 15 rfl rfl
theorem qw2_16 : Cond.methodLink RJx4a65c 131 yJx4a65c_add_72be8 ∈ Tw := tw2 16 rfl rfl
theorem qw2_18 : Cond.instanceMethod yJx4a65c_add_72be8 ∈ Tw := tw2 18 rfl rfl
theorem qw2_19 : Cond.code yJx4a65c_add_72be8 cJx4a65c_add_72be8 4 (none : Option FieldType) ∈ Tw := tw2 19 rfl rfl
theorem qw2_20 : Cond.methodLink RJx4a65c 129 yJx4a65c_grow_d5877 ∈ Tw := tw2 20 rfl rfl
theorem qw2_22 : Cond.instanceMethod yJx4a65c_grow_d5877 ∈ Tw := tw2 22 rfl rfl
theorem qw2_23 : Cond.code yJx4a65c_grow_d5877 cJx4a65c_grow_d5877 1 (some (FieldType.array (FieldType.object "java/lang/Object"))) ∈ Tw := tw2 23 rfl rfl
theorem qw2_24 : Cond.methodLink RJx4a65c 69 yJx4a65c_grow_92f84 ∈ Tw := tw2 24 rfl rfl
theorem qw2_26 : Cond.instanceMethod yJx4a65c_grow_92f84 ∈ Tw := tw2 26 rfl rfl
theorem qw2_27 : Cond.code yJx4a65c_grow_92f84 cJx4a65c_grow_92f84 4 (some (FieldType.array (FieldType.object "java/lang/Object"))) ∈ Tw := tw2 27 rfl rfl
theorem qw2_28 : Cond.methodLink RJx4a65c 73 yJ8_newLength_cabcc ∈ Tw := tw2 28 rfl rfl
theorem qw2_29 : Cond.static yJ8_newLength_cabcc ∈ Tw := tw2 29 rfl rfl
theorem qw2_30 : Cond.code yJ8_newLength_cabcc cJ8_newLength_cabcc 4 (some FieldType.int) ∈ Tw := tw2 30 rfl rfl
theorem qw2_31 : Cond.methodLink RJ8 194 yJ9_max_7cf53 ∈ Tw := tw2 31 rfl rfl
theorem qw2_32 : Cond.static yJ9_max_7cf53 ∈ Tw := tw2 32 rfl rfl
theorem qw2_33 : Cond.code yJ9_max_7cf53 cJ9_max_7cf53 2 (some FieldType.int) ∈ Tw := tw2 33 rfl rfl
theorem qw2_34 : Cond.constant RJ8 200 (2147483639 : Int32) ∈ Tw := tw2 34 rfl rfl
theorem qw2_35 : Cond.methodLink RJ8 201 yJ8_hugeLength_7cf53 ∈ Tw := tw2 35 rfl rfl
theorem qw2_36 : Cond.static yJ8_hugeLength_7cf53 ∈ Tw := tw2 36 rfl rfl
theorem qw2_37 : Cond.code yJ8_hugeLength_7cf53 cJ8_hugeLength_7cf53 3 (some FieldType.int) ∈ Tw := tw2 37 rfl rfl
theorem qw2_38 : Cond.methodLink RJx4a65c 66 yJ7_copyOf_1904c ∈ Tw := tw2 38 rfl rfl
theorem qw2_39 : Cond.static yJ7_copyOf_1904c ∈ Tw := tw2 39 rfl rfl
theorem qw2_40 : Cond.code yJ7_copyOf_1904c cJ7_copyOf_1904c 2 (some (FieldType.array (FieldType.object "java/lang/Object"))) ∈ Tw := tw2 40 rfl rfl
theorem qw2_41 : Cond.methodLink RJ7 86 ⟨"java/lang/Object", "getClass", "()Ljava/lang/Class;"⟩ ∈ Tw := tw2 41 rfl rfl
theorem qw2_42 : Cond.instanceMethod ⟨"java/lang/Object", "getClass", "()Ljava/lang/Class;"⟩ ∈ Tw := tw2 42 rfl rfl
theorem qw2_44 : Cond.selects RX4 ⟨"java/lang/Object", "getClass", "()Ljava/lang/Class;"⟩ ⟨"java/lang/Object", "getClass", "()Ljava/lang/Class;"⟩ ∈ Tw := tw2 44 rfl rfl
theorem qw2_45 : Cond.selects RX0 ⟨"java/lang/Object", "getClass", "()Ljava/lang/Class;"⟩ ⟨"java/lang/Object", "getClass", "()Ljava/lang/Class;"⟩ ∈ Tw := tw2 45 rfl rfl
theorem qw2_46 : Cond.selects RX1 ⟨"java/lang/Object", "getClass", "()Ljava/lang/Class;"⟩ ⟨"java/lang/Object", "getClass", "()Ljava/lang/Class;"⟩ ∈ Tw := tw2 46 rfl rfl
theorem qw2_47 : Cond.selects RX2 ⟨"java/lang/Object", "getClass", "()Ljava/lang/Class;"⟩ ⟨"java/lang/Object", "getClass", "()Ljava/lang/Class;"⟩ ∈ Tw := tw2 47 rfl rfl
theorem qw2_48 : Cond.selects RX3 ⟨"java/lang/Object", "getClass", "()Ljava/lang/Class;"⟩ ⟨"java/lang/Object", "getClass", "()Ljava/lang/Class;"⟩ ∈ Tw := tw2 48 rfl rfl
theorem qw2_49 : Cond.selects "java/lang/IllegalArgumentException" ⟨"java/lang/Object", "getClass", "()Ljava/lang/Class;"⟩ ⟨"java/lang/Object", "getClass", "()Ljava/lang/Class;"⟩ ∈ Tw := tw2 49 rfl rfl
theorem qw2_50 : Cond.selects "java/lang/IllegalStateException" ⟨"java/lang/Object", "getClass", "()Ljava/lang/Class;"⟩ ⟨"java/lang/Object", "getClass", "()Ljava/lang/Class;"⟩ ∈ Tw := tw2 50 rfl rfl
theorem qw2_51 : Cond.selects "java/lang/IndexOutOfBoundsException" ⟨"java/lang/Object", "getClass", "()Ljava/lang/Class;"⟩ ⟨"java/lang/Object", "getClass", "()Ljava/lang/Class;"⟩ ∈ Tw := tw2 51 rfl rfl
theorem qw2_52 : Cond.selects RJx4a65c ⟨"java/lang/Object", "getClass", "()Ljava/lang/Class;"⟩ ⟨"java/lang/Object", "getClass", "()Ljava/lang/Class;"⟩ ∈ Tw := tw2 52 rfl rfl
theorem qw2_54 : Cond.methodLink RJ7 300 yJ7_copyOf_6403c ∈ Tw := tw2 54 rfl rfl
theorem qw2_55 : Cond.static yJ7_copyOf_6403c ∈ Tw := tw2 55 rfl rfl
theorem qw2_56 : Cond.code yJ7_copyOf_6403c cJ7_copyOf_6403c 4 (some (FieldType.array (FieldType.object "java/lang/Object"))) ∈ Tw := tw2 56 rfl rfl
theorem qw2_57 : Cond.classLink RJ7 110 "[Ljava/lang/Object;" ∈ Tw := tw2 57 rfl rfl
theorem qw2_59 : Cond.classLink RJ7 2 "java/lang/Object" ∈ Tw := tw2 59 rfl rfl
theorem qw2_60 : Cond.methodLink RJ7 304 yJ9_min_7cf53 ∈ Tw := tw2 60 rfl rfl
theorem qw2_61 : Cond.static yJ9_min_7cf53 ∈ Tw := tw2 61 rfl rfl
theorem qw2_62 : Cond.code yJ9_min_7cf53 cJ9_min_7cf53 2 (some FieldType.int) ∈ Tw := tw2 62 rfl rfl
theorem qw2_63 : Cond.methodLink RJ7 150 ⟨RJ10, "arraycopy", "(Ljava/lang/Object;ILjava/lang/Object;II)V"⟩ ∈ Tw := tw2 63 rfl rfl
theorem qw2_64 : Cond.static ⟨RJ10, "arraycopy", "(Ljava/lang/Object;ILjava/lang/Object;II)V"⟩ ∈ Tw := tw2 64 rfl rfl
theorem qw2_66 : Cond.methodLink RJx4a65c 79 yJ9_max_7cf53 ∈ Tw := tw2 66 rfl rfl
theorem qw2_67 : Cond.classLink RJx4a65c 7 "java/lang/Object" ∈ Tw := tw2 67 rfl rfl
theorem qw2_68 : Cond.methodLink RX4 62 yX4_rollAllTrades ∈ Tw := tw2 68 rfl rfl
theorem qw2_70 : Cond.instanceMethod yX4_rollAllTrades ∈ Tw := tw2 70 rfl rfl
theorem qw2_71 : Cond.code yX4_rollAllTrades cX4_rollAllTrades 2 (none : Option FieldType) ∈ Tw := tw2 71 rfl rfl
theorem qw2_72 : Cond.methodLink RX4 85 yJx4a65c_size_8abf5 ∈ Tw := tw2 72 rfl rfl
theorem qw2_73 : Cond.methodLink RX4 134 yJx4a65c_get_915e3 ∈ Tw := tw2 73 rfl rfl
theorem qw2_74 : Cond.classLink RX4 90 RX3 ∈ Tw := tw2 74 rfl rfl
theorem qw2_75 : Cond.methodLink RX4 95 yX3_rollDays ∈ Tw := tw2 75 rfl rfl
theorem qw2_76 : Cond.instanceMethod yX3_rollDays ∈ Tw := tw2 76 rfl rfl
theorem qw2_77 : Cond.selects RX3 yX3_rollDays yX3_rollDays ∈ Tw := tw2 77 rfl rfl
theorem qw2_78 : Cond.code yX3_rollDays cX3_rollDays 3 (none : Option FieldType) ∈ Tw := tw2 78 rfl rfl
theorem qw2_79 : Cond.methodLink RX3 57 yX0_rolledDayOf ∈ Tw := tw2 79 rfl rfl
theorem qw2_80 : Cond.instanceMethod yX0_rolledDayOf ∈ Tw := tw2 80 rfl rfl
theorem qw2_81 : Cond.selects RX0 yX0_rolledDayOf yX0_rolledDayOf ∈ Tw := tw2 81 rfl rfl
theorem qw2_82 : Cond.code yX0_rolledDayOf cX0_rolledDayOf 4 (some FieldType.int) ∈ Tw := tw2 82 rfl rfl
theorem qw2_83 : Cond.methodLink RX0 31 yX0_opensOn ∈ Tw := tw2 83 rfl rfl
theorem qw2_84 : Cond.instanceMethod yX0_opensOn ∈ Tw := tw2 84 rfl rfl
theorem qw2_85 : Cond.selects RX0 yX0_opensOn yX0_opensOn ∈ Tw := tw2 85 rfl rfl
theorem qw2_86 : Cond.code yX0_opensOn cX0_opensOn 2 (some FieldType.boolean) ∈ Tw := tw2 86 rfl rfl
theorem qw2_87 : Cond.methodLink RX0 21 yJ9_floorMod_7cf53 ∈ Tw := tw2 87 rfl rfl
theorem qw2_88 : Cond.static yJ9_floorMod_7cf53 ∈ Tw := tw2 88 rfl rfl
theorem qw2_89 : Cond.code yJ9_floorMod_7cf53 cJ9_floorMod_7cf53 3 (some FieldType.int) ∈ Tw := tw2 89 rfl rfl
theorem qw2_90 : Cond.methodLink RX0 27 yX1_has ∈ Tw := tw2 90 rfl rfl
theorem qw2_91 : Cond.methodLink RL 69 yX4_isOpen ∈ Tw := tw2 91 rfl rfl
theorem qw2_92 : Cond.instanceMethod yX4_isOpen ∈ Tw := tw2 92 rfl rfl
theorem qw2_93 : Cond.selects RX4 yX4_isOpen yX4_isOpen ∈ Tw := tw2 93 rfl rfl
theorem qw2_94 : Cond.code yX4_isOpen cX4_isOpen 2 (some FieldType.boolean) ∈ Tw := tw2 94 rfl rfl
theorem qw2_95 : Cond.methodLink RX4 65 yX0_opensOn ∈ Tw := tw2 95 rfl rfl
theorem qw2_96 : Cond.methodLink RL 73 yX4_roll ∈ Tw := tw2 96 rfl rfl
theorem qw2_97 : Cond.instanceMethod yX4_roll ∈ Tw := tw2 97 rfl rfl
theorem qw2_98 : Cond.selects RX4 yX4_roll yX4_roll ∈ Tw := tw2 98 rfl rfl
theorem qw2_99 : Cond.code yX4_roll cX4_roll 2 (some FieldType.int) ∈ Tw := tw2 99 rfl rfl
theorem qw2_100 : Cond.methodLink RX4 68 yX0_rolledDayOf ∈ Tw := tw2 100 rfl rfl
theorem qw2_101 : Cond.methodLink RL 63 yX4_fix ∈ Tw := tw2 101 rfl rfl
theorem qw2_102 : Cond.instanceMethod yX4_fix ∈ Tw := tw2 102 rfl rfl
theorem qw2_103 : Cond.selects RX4 yX4_fix yX4_fix ∈ Tw := tw2 103 rfl rfl
theorem qw2_104 : Cond.code yX4_fix cX4_fix 3 (some FieldType.int) ∈ Tw := tw2 104 rfl rfl
theorem qw2_106 : Cond.methodLink RX4 74 yX1_put ∈ Tw := tw2 106 rfl rfl
theorem qw2_107 : Cond.instanceMethod yX1_put ∈ Tw := tw2 107 rfl rfl
theorem qw2_108 : Cond.selects RX1 yX1_put yX1_put ∈ Tw := tw2 108 rfl rfl
theorem qw2_109 : Cond.code yX1_put cX1_put 4 (none : Option FieldType) ∈ Tw := tw2 109 rfl rfl
theorem qw2_110 : Cond.methodLink RX1 35 yX1_add ∈ Tw := tw2 110 rfl rfl
theorem qw2_111 : Cond.methodLink RL 55 yX4_trade ∈ Tw := tw2 111 rfl rfl
theorem qw2_112 : Cond.instanceMethod yX4_trade ∈ Tw := tw2 112 rfl rfl
theorem qw2_113 : Cond.selects RX4 yX4_trade yX4_trade ∈ Tw := tw2 113 rfl rfl
theorem qw2_114 : Cond.code yX4_trade cX4_trade 9 (some FieldType.int) ∈ Tw := tw2 114 rfl rfl
theorem qw2_115 : Cond.methodLink RX4 81 yX4_checkParty ∈ Tw := tw2 115 rfl rfl
theorem qw2_116 : Cond.static yX4_checkParty ∈ Tw := tw2 116 rfl rfl
theorem qw2_117 : Cond.code yX4_checkParty cX4_checkParty 1 (none : Option FieldType) ∈ Tw := tw2 117 rfl rfl
theorem qw2_120 : Cond.instantiable RX3 13 ∈ Tw := tw2 120 rfl rfl
theorem qw2_121 : Cond.methodLink RX4 92 yX3_init ∈ Tw := tw2 121 rfl rfl
theorem qw2_122 : Cond.instanceMethod yX3_init ∈ Tw := tw2 122 rfl rfl
theorem qw2_123 : Cond.code yX3_init cX3_init 8 (none : Option FieldType) ∈ Tw := tw2 123 rfl rfl
theorem qw2_124 : Cond.methodLink RX3 3 ⟨"java/lang/Object", "<init>", "()V"⟩ ∈ Tw := tw2 124 rfl rfl
theorem qw2_125 : Cond.classLink RX3 43 RX1 ∈ Tw := tw2 125 rfl rfl
theorem qw2_126 : Cond.methodLink RX3 45 yX1_init ∈ Tw := tw2 126 rfl rfl
theorem qw2_127 : Cond.fieldLink RX3 9 RX3 "party" "I" ∈ Tw := tw2 127 rfl rfl
theorem qw2_128 : Cond.fieldLink RX3 15 RX3 "lots" "I" ∈ Tw := tw2 128 rfl rfl
theorem qw2_129 : Cond.fieldLink RX3 18 RX3 "paysFixed" "Z" ∈ Tw := tw2 129 rfl rfl
theorem qw2_130 : Cond.fieldLink RX3 22 RX3 "fixed" "I" ∈ Tw := tw2 130 rfl rfl
theorem qw2_131 : Cond.fieldLink RX3 25 RX3 "first" "I" ∈ Tw := tw2 131 rfl rfl
theorem qw2_132 : Cond.fieldLink RX3 28 RX3 "length" "I" ∈ Tw := tw2 132 rfl rfl
theorem qw2_133 : Cond.fieldLink RX3 31 RX3 "periods" "I" ∈ Tw := tw2 133 rfl rfl
theorem qw2_134 : Cond.fieldLink RX4 190 RX3 "periods" "I" ∈ Tw := tw2 134 rfl rfl
theorem qw2_135 : Cond.fieldLink RX3 34 RX3 "spread" "I" ∈ Tw := tw2 135 rfl rfl
theorem qw2_136 : Cond.fieldLink RX3 37 RX3 "dayCount" "I" ∈ Tw := tw2 136 rfl rfl
theorem qw2_137 : Cond.fieldLink RX3 40 RX3 "compounding" "I" ∈ Tw := tw2 137 rfl rfl
theorem qw2_138 : Cond.fieldLink RX3 46 RX3 "breaks" "LResetline$Diary;" ∈ Tw := tw2 138 rfl rfl
theorem qw2_139 : Cond.fieldLink RX4 106 RX3 "breaks" "LResetline$Diary;" ∈ Tw := tw2 139 rfl rfl
theorem qw2_140 : Cond.fieldLink RX3 50 RX3 "handovers" "LResetline$Diary;" ∈ Tw := tw2 140 rfl rfl
theorem qw2_141 : Cond.fieldLink RX4 126 RX3 "handovers" "LResetline$Diary;" ∈ Tw := tw2 141 rfl rfl
theorem qw2_142 : Cond.fieldLink RX3 53 RX3 "bounds" "[I" ∈ Tw := tw2 142 rfl rfl
theorem qw2_143 : Cond.laysFinal RX3 RX3 "party" "I" ∈ Tw := tw2 143 rfl rfl
theorem qw2_145 : Cond.laysFinal RX3 RX3 "lots" "I" ∈ Tw := tw2 145 rfl rfl
theorem qw2_147 : Cond.laysFinal RX3 RX3 "paysFixed" "Z" ∈ Tw := tw2 147 rfl rfl
theorem qw2_149 : Cond.laysFinal RX3 RX3 "fixed" "I" ∈ Tw := tw2 149 rfl rfl
theorem qw2_151 : Cond.laysFinal RX3 RX3 "first" "I" ∈ Tw := tw2 151 rfl rfl
theorem qw2_153 : Cond.laysFinal RX3 RX3 "length" "I" ∈ Tw := tw2 153 rfl rfl
theorem qw2_155 : Cond.laysFinal RX3 RX3 "periods" "I" ∈ Tw := tw2 155 rfl rfl
theorem qw2_157 : Cond.lays RX3 RX3 "spread" "I" ∈ Tw := tw2 157 rfl rfl
theorem qw2_159 : Cond.lays RX3 RX3 "dayCount" "I" ∈ Tw := tw2 159 rfl rfl
theorem qw2_161 : Cond.lays RX3 RX3 "compounding" "I" ∈ Tw := tw2 161 rfl rfl
theorem qw2_163 : Cond.laysFinal RX3 RX3 "breaks" "LResetline$Diary;" ∈ Tw := tw2 163 rfl rfl
theorem qw2_165 : Cond.laysFinal RX3 RX3 "handovers" "LResetline$Diary;" ∈ Tw := tw2 165 rfl rfl
theorem qw2_167 : Cond.laysFinal RX3 RX3 "bounds" "[I" ∈ Tw := tw2 167 rfl rfl
theorem qw2_170 : Cond.arrayClass FieldType.int ∈ Tw := tw2 170 rfl rfl
theorem qw2_171 : Cond.methodLink RX4 99 yJx4a65c_add_9ea2d ∈ Tw := tw2 171 rfl rfl
theorem qw2_172 : Cond.methodLink RL 59 yX4_handOver ∈ Tw := tw2 172 rfl rfl
theorem qw2_173 : Cond.instanceMethod yX4_handOver ∈ Tw := tw2 173 rfl rfl
theorem qw2_174 : Cond.selects RX4 yX4_handOver yX4_handOver ∈ Tw := tw2 174 rfl rfl
theorem qw2_175 : Cond.code yX4_handOver cX4_handOver 6 (some FieldType.int) ∈ Tw := tw2 175 rfl rfl
theorem qw2_176 : Cond.methodLink RX4 102 yX4_swapAt ∈ Tw := tw2 176 rfl rfl
theorem qw2_178 : Cond.instanceMethod yX4_swapAt ∈ Tw := tw2 178 rfl rfl
theorem qw2_179 : Cond.code yX4_swapAt cX4_swapAt 2 (some (FieldType.object RX3)) ∈ Tw := tw2 179 rfl rfl
theorem qw2_182 : Cond.methodLink RX4 131 yX3_holderOn ∈ Tw := tw2 182 rfl rfl
theorem qw2_183 : Cond.instanceMethod yX3_holderOn ∈ Tw := tw2 183 rfl rfl
theorem qw2_184 : Cond.selects RX3 yX3_holderOn yX3_holderOn ∈ Tw := tw2 184 rfl rfl
theorem qw2_185 : Cond.code yX3_holderOn cX3_holderOn 2 (some FieldType.int) ∈ Tw := tw2 185 rfl rfl
theorem qw2_186 : Cond.methodLink RX3 69 yX1_latestValue ∈ Tw := tw2 186 rfl rfl
theorem qw2_187 : Cond.instanceMethod yX1_latestValue ∈ Tw := tw2 187 rfl rfl
theorem qw2_188 : Cond.selects RX1 yX1_latestValue yX1_latestValue ∈ Tw := tw2 188 rfl rfl
theorem qw2_189 : Cond.code yX1_latestValue cX1_latestValue 7 (some FieldType.int) ∈ Tw := tw2 189 rfl rfl
theorem qw2_190 : Cond.methodLink RL 42 yX4_start ∈ Tw := tw2 190 rfl rfl
theorem qw2_191 : Cond.instanceMethod yX4_start ∈ Tw := tw2 191 rfl rfl
theorem qw2_192 : Cond.selects RX4 yX4_start yX4_start ∈ Tw := tw2 192 rfl rfl
theorem qw2_193 : Cond.code yX4_start cX4_start 3 (some FieldType.int) ∈ Tw := tw2 193 rfl rfl
theorem qw2_194 : Cond.methodLink RX4 142 yX4_swapWithPeriod ∈ Tw := tw2 194 rfl rfl
theorem qw2_196 : Cond.instanceMethod yX4_swapWithPeriod ∈ Tw := tw2 196 rfl rfl
theorem qw2_197 : Cond.code yX4_swapWithPeriod cX4_swapWithPeriod 4 (some (FieldType.object RX3)) ∈ Tw := tw2 197 rfl rfl
theorem qw2_199 : Cond.methodLink RX4 146 yX3_startOf ∈ Tw := tw2 199 rfl rfl
theorem qw2_200 : Cond.instanceMethod yX3_startOf ∈ Tw := tw2 200 rfl rfl
theorem qw2_201 : Cond.selects RX3 yX3_startOf yX3_startOf ∈ Tw := tw2 201 rfl rfl
theorem qw2_202 : Cond.code yX3_startOf cX3_startOf 2 (some FieldType.int) ∈ Tw := tw2 202 rfl rfl
theorem qw2_203 : Cond.methodLink RL 39 yX4_lots ∈ Tw := tw2 203 rfl rfl
theorem qw2_204 : Cond.instanceMethod yX4_lots ∈ Tw := tw2 204 rfl rfl
theorem qw2_205 : Cond.selects RX4 yX4_lots yX4_lots ∈ Tw := tw2 205 rfl rfl
theorem qw2_206 : Cond.code yX4_lots cX4_lots 3 (some FieldType.int) ∈ Tw := tw2 206 rfl rfl
theorem qw2_207 : Cond.methodLink RX4 152 yX3_lotsOf ∈ Tw := tw2 207 rfl rfl
theorem qw2_208 : Cond.instanceMethod yX3_lotsOf ∈ Tw := tw2 208 rfl rfl
theorem qw2_209 : Cond.selects RX3 yX3_lotsOf yX3_lotsOf ∈ Tw := tw2 209 rfl rfl
theorem qw2_210 : Cond.code yX3_lotsOf cX3_lotsOf 2 (some FieldType.int) ∈ Tw := tw2 210 rfl rfl
theorem qw2_211 : Cond.methodLink RX3 63 yX3_startOf ∈ Tw := tw2 211 rfl rfl
theorem qw2_212 : Cond.methodLink RX3 66 yX1_sumUntil ∈ Tw := tw2 212 rfl rfl
theorem qw2_213 : Cond.instanceMethod yX1_sumUntil ∈ Tw := tw2 213 rfl rfl
theorem qw2_214 : Cond.selects RX1 yX1_sumUntil yX1_sumUntil ∈ Tw := tw2 214 rfl rfl
theorem qw2_215 : Cond.code yX1_sumUntil cX1_sumUntil 5 (some FieldType.int) ∈ Tw := tw2 215 rfl rfl
theorem qw2_216 : Cond.methodLink RL 46 yL_cell ∈ Tw := tw2 216 rfl rfl
theorem qw2_217 : Cond.static yL_cell ∈ Tw := tw2 217 rfl rfl
theorem qw2_218 : Cond.code yL_cell cL_cell 2 (some FieldType.int) ∈ Tw := tw2 218 rfl rfl
theorem qw2_219 : Cond.methodLink RL 52 yL_low ∈ Tw := tw2 219 rfl rfl
theorem qw2_220 : Cond.static yL_low ∈ Tw := tw2 220 rfl rfl
theorem qw2_221 : Cond.code yL_low cL_low 2 (some FieldType.int) ∈ Tw := tw2 221 rfl rfl
theorem qw2_222 : Cond.constant RL 7 (2147483647 : Int32) ∈ Tw := tw2 222 rfl rfl
theorem qw2_223 : Cond.methodLink RL 84 yL_isCash ∈ Tw := tw2 223 rfl rfl
theorem qw2_224 : Cond.static yL_isCash ∈ Tw := tw2 224 rfl rfl
theorem qw2_225 : Cond.code yL_isCash cL_isCash 12 (some FieldType.boolean) ∈ Tw := tw2 225 rfl rfl
theorem qw2_226 : Cond.methodLink RL 8 yX4_cashOfDays ∈ Tw := tw2 226 rfl rfl
theorem qw2_227 : Cond.instanceMethod yX4_cashOfDays ∈ Tw := tw2 227 rfl rfl
theorem qw2_228 : Cond.selects RX4 yX4_cashOfDays yX4_cashOfDays ∈ Tw := tw2 228 rfl rfl
theorem qw2_229 : Cond.code yX4_cashOfDays cX4_cashOfDays 7 (some FieldType.long) ∈ Tw := tw2 229 rfl rfl
theorem qw2_230 : Cond.methodLink RX4 166 yX4_checkSpan ∈ Tw := tw2 230 rfl rfl
theorem qw2_231 : Cond.static yX4_checkSpan ∈ Tw := tw2 231 rfl rfl
theorem qw2_232 : Cond.code yX4_checkSpan cX4_checkSpan 2 (none : Option FieldType) ∈ Tw := tw2 232 rfl rfl
theorem qw2_233 : Cond.methodLink RX4 181 yJ9_min_7cf53 ∈ Tw := tw2 233 rfl rfl
theorem qw2_234 : Cond.methodLink RX4 162 yX4_cashOnDay ∈ Tw := tw2 234 rfl rfl
theorem qw2_236 : Cond.instanceMethod yX4_cashOnDay ∈ Tw := tw2 236 rfl rfl
theorem qw2_237 : Cond.code yX4_cashOnDay cX4_cashOnDay 6 (some FieldType.long) ∈ Tw := tw2 237 rfl rfl
theorem qw2_238 : Cond.methodLink RX4 169 yX3_cashOf ∈ Tw := tw2 238 rfl rfl
theorem qw2_239 : Cond.instanceMethod yX3_cashOf ∈ Tw := tw2 239 rfl rfl
theorem qw3_0 : Cond.selects RX3 yX3_cashOf yX3_cashOf ∈ Tw := tw3 0 rfl rfl
theorem qw3_1 : Cond.code yX3_cashOf cX3_cashOf 9 (some FieldType.long) ∈ Tw := tw3 1 rfl rfl
theorem qw3_2 : Cond.methodLink RX3 95 yX3_endOf ∈ Tw := tw3 2 rfl rfl
theorem qw3_3 : Cond.instanceMethod yX3_endOf ∈ Tw := tw3 3 rfl rfl
theorem qw3_4 : Cond.selects RX3 yX3_endOf yX3_endOf ∈ Tw := tw3 4 rfl rfl
theorem qw3_5 : Cond.code yX3_endOf cX3_endOf 2 (some FieldType.int) ∈ Tw := tw3 5 rfl rfl
theorem qw3_6 : Cond.methodLink RX3 98 yX3_holderOn ∈ Tw := tw3 6 rfl rfl
theorem qw3_7 : Cond.methodLink RX3 101 yX3_flowOf ∈ Tw := tw3 7 rfl rfl
theorem qw3_8 : Cond.instanceMethod yX3_flowOf ∈ Tw := tw3 8 rfl rfl
theorem qw3_9 : Cond.selects RX3 yX3_flowOf yX3_flowOf ∈ Tw := tw3 9 rfl rfl
theorem qw3_10 : Cond.code yX3_flowOf cX3_flowOf 5 (some FieldType.long) ∈ Tw := tw3 10 rfl rfl
theorem qw3_11 : Cond.methodLink RX3 89 yX3_floatingOf ∈ Tw := tw3 11 rfl rfl
theorem qw3_12 : Cond.instanceMethod yX3_floatingOf ∈ Tw := tw3 12 rfl rfl
theorem qw3_13 : Cond.selects RX3 yX3_floatingOf yX3_floatingOf ∈ Tw := tw3 13 rfl rfl
theorem qw3_14 : Cond.code yX3_floatingOf cX3_floatingOf 12 (some FieldType.long) ∈ Tw := tw3 14 rfl rfl
theorem qw3_15 : Cond.methodLink RX3 73 yX3_rateOf ∈ Tw := tw3 15 rfl rfl
theorem qw3_17 : Cond.instanceMethod yX3_rateOf ∈ Tw := tw3 17 rfl rfl
theorem qw3_18 : Cond.code yX3_rateOf cX3_rateOf 3 (some FieldType.long) ∈ Tw := tw3 18 rfl rfl
theorem qw3_19 : Cond.methodLink RX3 77 yX3_daysOf ∈ Tw := tw3 19 rfl rfl
theorem qw3_21 : Cond.instanceMethod yX3_daysOf ∈ Tw := tw3 21 rfl rfl
theorem qw3_22 : Cond.code yX3_daysOf cX3_daysOf 2 (some FieldType.long) ∈ Tw := tw3 22 rfl rfl
theorem qw3_23 : Cond.constantLong RX3 81 (3600000 : Int64) ∈ Tw := tw3 23 rfl rfl
theorem qw3_24 : Cond.methodLink RX3 83 yJ9_floorDiv_f86c9 ∈ Tw := tw3 24 rfl rfl
theorem qw3_25 : Cond.static yJ9_floorDiv_f86c9 ∈ Tw := tw3 25 rfl rfl
theorem qw3_26 : Cond.code yJ9_floorDiv_f86c9 cJ9_floorDiv_f86c9 6 (some FieldType.long) ∈ Tw := tw3 26 rfl rfl
theorem qw3_27 : Cond.methodLink RX3 92 yX3_lotsOf ∈ Tw := tw3 27 rfl rfl
theorem qw3_28 : Cond.methodLink RL 14 yX4_cashByTrades ∈ Tw := tw3 28 rfl rfl
theorem qw3_29 : Cond.instanceMethod yX4_cashByTrades ∈ Tw := tw3 29 rfl rfl
theorem qw3_30 : Cond.selects RX4 yX4_cashByTrades yX4_cashByTrades ∈ Tw := tw3 30 rfl rfl
theorem qw3_31 : Cond.code yX4_cashByTrades cX4_cashByTrades 7 (some FieldType.long) ∈ Tw := tw3 31 rfl rfl
theorem qw3_32 : Cond.methodLink RL 17 yX4_trades ∈ Tw := tw3 32 rfl rfl
theorem qw3_33 : Cond.instanceMethod yX4_trades ∈ Tw := tw3 33 rfl rfl
theorem qw3_34 : Cond.selects RX4 yX4_trades yX4_trades ∈ Tw := tw3 34 rfl rfl
theorem qw3_35 : Cond.code yX4_trades cX4_trades 1 (some FieldType.int) ∈ Tw := tw3 35 rfl rfl
theorem qw3_36 : Cond.methodLink RL 21 yX4_end ∈ Tw := tw3 36 rfl rfl
theorem qw3_37 : Cond.instanceMethod yX4_end ∈ Tw := tw3 37 rfl rfl
theorem qw3_38 : Cond.selects RX4 yX4_end yX4_end ∈ Tw := tw3 38 rfl rfl
theorem qw3_39 : Cond.code yX4_end cX4_end 3 (some FieldType.int) ∈ Tw := tw3 39 rfl rfl
theorem qw3_40 : Cond.methodLink RX4 149 yX3_endOf ∈ Tw := tw3 40 rfl rfl
theorem qw3_41 : Cond.methodLink RL 25 yX4_flow ∈ Tw := tw3 41 rfl rfl
theorem qw3_42 : Cond.instanceMethod yX4_flow ∈ Tw := tw3 42 rfl rfl
theorem qw3_43 : Cond.selects RX4 yX4_flow yX4_flow ∈ Tw := tw3 43 rfl rfl
theorem qw3_44 : Cond.code yX4_flow cX4_flow 3 (some FieldType.long) ∈ Tw := tw3 44 rfl rfl
theorem qw3_45 : Cond.methodLink RX4 159 yX3_flowOf ∈ Tw := tw3 45 rfl rfl
theorem qw3_46 : Cond.methodLink RL 29 yX4_partyOn ∈ Tw := tw3 46 rfl rfl
theorem qw3_47 : Cond.instanceMethod yX4_partyOn ∈ Tw := tw3 47 rfl rfl
theorem qw3_48 : Cond.selects RX4 yX4_partyOn yX4_partyOn ∈ Tw := tw3 48 rfl rfl
theorem qw3_49 : Cond.code yX4_partyOn cX4_partyOn 4 (some FieldType.int) ∈ Tw := tw3 49 rfl rfl
theorem qw3_50 : Cond.methodLink RL 32 yX4_nextFlow ∈ Tw := tw3 50 rfl rfl
theorem qw3_51 : Cond.instanceMethod yX4_nextFlow ∈ Tw := tw3 51 rfl rfl
theorem qw3_52 : Cond.selects RX4 yX4_nextFlow yX4_nextFlow ∈ Tw := tw3 52 rfl rfl
theorem qw3_53 : Cond.code yX4_nextFlow cX4_nextFlow 6 (some FieldType.int) ∈ Tw := tw3 53 rfl rfl
theorem qw3_54 : Cond.methodLink RX4 173 yX3_nextPayDay ∈ Tw := tw3 54 rfl rfl
theorem qw3_55 : Cond.instanceMethod yX3_nextPayDay ∈ Tw := tw3 55 rfl rfl
theorem qw3_56 : Cond.selects RX3 yX3_nextPayDay yX3_nextPayDay ∈ Tw := tw3 56 rfl rfl
theorem qw3_57 : Cond.code yX3_nextPayDay cX3_nextPayDay 5 (some FieldType.int) ∈ Tw := tw3 57 rfl rfl
theorem qw3_58 : Cond.methodLink RL 80 yL_isPressed ∈ Tw := tw3 58 rfl rfl
theorem qw3_59 : Cond.static yL_isPressed ∈ Tw := tw3 59 rfl rfl
theorem qw3_60 : Cond.code yL_isPressed cL_isPressed 14 (some FieldType.boolean) ∈ Tw := tw3 60 rfl rfl
theorem qw3_61 : Cond.methodLink RL 35 yX4_press ∈ Tw := tw3 61 rfl rfl
theorem qw3_62 : Cond.instanceMethod yX4_press ∈ Tw := tw3 62 rfl rfl
theorem qw3_63 : Cond.selects RX4 yX4_press yX4_press ∈ Tw := tw3 63 rfl rfl
theorem qw3_64 : Cond.code yX4_press cX4_press 5 (some FieldType.int) ∈ Tw := tw3 64 rfl rfl
theorem qw3_65 : Cond.methodLink RX4 138 yX4_pressPair ∈ Tw := tw3 65 rfl rfl
theorem qw3_66 : Cond.static yX4_pressPair ∈ Tw := tw3 66 rfl rfl
theorem qw3_67 : Cond.code yX4_pressPair cX4_pressPair 4 (some FieldType.int) ∈ Tw := tw3 67 rfl rfl
theorem qw3_68 : Cond.methodLink RX4 195 yX3_fits ∈ Tw := tw3 68 rfl rfl
theorem qw3_69 : Cond.instanceMethod yX3_fits ∈ Tw := tw3 69 rfl rfl
theorem qw3_70 : Cond.selects RX3 yX3_fits yX3_fits ∈ Tw := tw3 70 rfl rfl
theorem qw3_71 : Cond.code yX3_fits cX3_fits 2 (some FieldType.boolean) ∈ Tw := tw3 71 rfl rfl
theorem qw3_72 : Cond.methodLink RX4 199 yX3_isOfSamePartyFrom ∈ Tw := tw3 72 rfl rfl
theorem qw3_73 : Cond.instanceMethod yX3_isOfSamePartyFrom ∈ Tw := tw3 73 rfl rfl
theorem qw3_74 : Cond.selects RX3 yX3_isOfSamePartyFrom yX3_isOfSamePartyFrom ∈ Tw := tw3 74 rfl rfl
theorem qw3_75 : Cond.code yX3_isOfSamePartyFrom cX3_isOfSamePartyFrom 6 (some FieldType.boolean) ∈ Tw := tw3 75 rfl rfl
theorem qw3_76 : Cond.methodLink RX4 121 yX3_restOfLots ∈ Tw := tw3 76 rfl rfl
theorem qw3_77 : Cond.instanceMethod yX3_restOfLots ∈ Tw := tw3 77 rfl rfl
theorem qw3_78 : Cond.selects RX3 yX3_restOfLots yX3_restOfLots ∈ Tw := tw3 78 rfl rfl
theorem qw3_79 : Cond.code yX3_restOfLots cX3_restOfLots 1 (some FieldType.int) ∈ Tw := tw3 79 rfl rfl
theorem qw3_80 : Cond.methodLink RL 76 yL_breaks ∈ Tw := tw3 80 rfl rfl
theorem qw3_81 : Cond.static yL_breaks ∈ Tw := tw3 81 rfl rfl
theorem qw3_82 : Cond.code yL_breaks cL_breaks 7 (some FieldType.boolean) ∈ Tw := tw3 82 rfl rfl
theorem qw3_83 : Cond.methodLink RL 87 yX4_breakPart ∈ Tw := tw3 83 rfl rfl
theorem qw3_84 : Cond.instanceMethod yX4_breakPart ∈ Tw := tw3 84 rfl rfl
theorem qw3_85 : Cond.selects RX4 yX4_breakPart yX4_breakPart ∈ Tw := tw3 85 rfl rfl
theorem qw3_86 : Cond.code yX4_breakPart cX4_breakPart 5 (some FieldType.int) ∈ Tw := tw3 86 rfl rfl
theorem qw3_101 : Cond.selects "[Ljava/lang/Object;" ⟨"java/lang/Object", "getClass", "()Ljava/lang/Class;"⟩ ⟨"java/lang/Object", "getClass", "()Ljava/lang/Class;"⟩ ∈ Tw := tw3 101 rfl rfl
theorem qp1 : Cond.selects yX1_entryOf.cls yX1_entryOf yX1_entryOf ∈ Tw := tw_priv (q := (yX1_entryOf, 1)) 1 rfl rfl
theorem qp2 : Cond.selects yJx4a65c_add_72be8.cls yJx4a65c_add_72be8 yJx4a65c_add_72be8 ∈ Tw := tw_priv (q := (yJx4a65c_add_72be8, 3)) 2 rfl rfl
theorem qp3 : Cond.selects yJx4a65c_grow_d5877.cls yJx4a65c_grow_d5877 yJx4a65c_grow_d5877 ∈ Tw := tw_priv (q := (yJx4a65c_grow_d5877, 3)) 3 rfl rfl
theorem qp4 : Cond.selects yJx4a65c_grow_92f84.cls yJx4a65c_grow_92f84 yJx4a65c_grow_92f84 ∈ Tw := tw_priv (q := (yJx4a65c_grow_92f84, 3)) 4 rfl rfl
theorem qp5 : Cond.selects yX4_rollAllTrades.cls yX4_rollAllTrades yX4_rollAllTrades ∈ Tw := tw_priv (q := (yX4_rollAllTrades, 3)) 5 rfl rfl
theorem qp6 : Cond.selects yX4_swapAt.cls yX4_swapAt yX4_swapAt ∈ Tw := tw_priv (q := (yX4_swapAt, 3)) 6 rfl rfl
theorem qp7 : Cond.selects yX4_swapWithPeriod.cls yX4_swapWithPeriod yX4_swapWithPeriod ∈ Tw := tw_priv (q := (yX4_swapWithPeriod, 3)) 7 rfl rfl
theorem qp8 : Cond.selects yX4_cashOnDay.cls yX4_cashOnDay yX4_cashOnDay ∈ Tw := tw_priv (q := (yX4_cashOnDay, 3)) 8 rfl rfl
theorem qp9 : Cond.selects yX3_rateOf.cls yX3_rateOf yX3_rateOf ∈ Tw := tw_priv (q := (yX3_rateOf, 13)) 9 rfl rfl
theorem qp10 : Cond.selects yX3_daysOf.cls yX3_daysOf yX3_daysOf ∈ Tw := tw_priv (q := (yX3_daysOf, 13)) 10 rfl rfl
end
section
theorem dJ9_floorDiv_f86c9_0 : decode cJ9_floorDiv_f86c9 0 = .ok (.lload_n 0, 1) := by decide +kernel
theorem dJ9_floorDiv_f86c9_1 : decode cJ9_floorDiv_f86c9 1 = .ok (.lload_n 2, 1) := by decide +kernel
theorem dJ9_floorDiv_f86c9_2 : decode cJ9_floorDiv_f86c9 2 = .ok (.ldiv, 1) := by decide +kernel
theorem dJ9_floorDiv_f86c9_3 : decode cJ9_floorDiv_f86c9 3 = .ok (.lstore 4, 2) := by decide +kernel
theorem dJ9_floorDiv_f86c9_5 : decode cJ9_floorDiv_f86c9 5 = .ok (.lload_n 0, 1) := by decide +kernel
theorem dJ9_floorDiv_f86c9_6 : decode cJ9_floorDiv_f86c9 6 = .ok (.lload_n 2, 1) := by decide +kernel
theorem dJ9_floorDiv_f86c9_7 : decode cJ9_floorDiv_f86c9 7 = .ok (.lxor, 1) := by decide +kernel
theorem dJ9_floorDiv_f86c9_8 : decode cJ9_floorDiv_f86c9 8 = .ok (.lconst 0, 1) := by decide +kernel
theorem dJ9_floorDiv_f86c9_9 : decode cJ9_floorDiv_f86c9 9 = .ok (.lcmp, 1) := by decide +kernel
theorem dJ9_floorDiv_f86c9_10 : decode cJ9_floorDiv_f86c9 10 = .ok (.ifCond .ge 17, 3) := by decide +kernel
theorem dJ9_floorDiv_f86c9_13 : decode cJ9_floorDiv_f86c9 13 = .ok (.lload 4, 2) := by decide +kernel
theorem dJ9_floorDiv_f86c9_15 : decode cJ9_floorDiv_f86c9 15 = .ok (.lload_n 2, 1) := by decide +kernel
theorem dJ9_floorDiv_f86c9_16 : decode cJ9_floorDiv_f86c9 16 = .ok (.lmul, 1) := by decide +kernel
theorem dJ9_floorDiv_f86c9_17 : decode cJ9_floorDiv_f86c9 17 = .ok (.lload_n 0, 1) := by decide +kernel
theorem dJ9_floorDiv_f86c9_18 : decode cJ9_floorDiv_f86c9 18 = .ok (.lcmp, 1) := by decide +kernel
theorem dJ9_floorDiv_f86c9_19 : decode cJ9_floorDiv_f86c9 19 = .ok (.ifCond .eq 8, 3) := by decide +kernel
theorem dJ9_floorDiv_f86c9_22 : decode cJ9_floorDiv_f86c9 22 = .ok (.lload 4, 2) := by decide +kernel
theorem dJ9_floorDiv_f86c9_24 : decode cJ9_floorDiv_f86c9 24 = .ok (.lconst 1, 1) := by decide +kernel
theorem dJ9_floorDiv_f86c9_25 : decode cJ9_floorDiv_f86c9 25 = .ok (.lsub, 1) := by decide +kernel
theorem dJ9_floorDiv_f86c9_26 : decode cJ9_floorDiv_f86c9 26 = .ok (.lreturn, 1) := by decide +kernel
theorem dJ9_floorDiv_f86c9_27 : decode cJ9_floorDiv_f86c9 27 = .ok (.lload 4, 2) := by decide +kernel
theorem dJ9_floorDiv_f86c9_29 : decode cJ9_floorDiv_f86c9 29 = .ok (.lreturn, 1) := by decide +kernel
theorem dJ9_floorMod_7cf53_0 : decode cJ9_floorMod_7cf53 0 = .ok (.iload_n 0, 1) := by decide +kernel
theorem dJ9_floorMod_7cf53_1 : decode cJ9_floorMod_7cf53 1 = .ok (.iload_n 1, 1) := by decide +kernel
theorem dJ9_floorMod_7cf53_2 : decode cJ9_floorMod_7cf53 2 = .ok (.irem, 1) := by decide +kernel
theorem dJ9_floorMod_7cf53_3 : decode cJ9_floorMod_7cf53 3 = .ok (.istore_n 2, 1) := by decide +kernel
theorem dJ9_floorMod_7cf53_4 : decode cJ9_floorMod_7cf53 4 = .ok (.iload_n 0, 1) := by decide +kernel
theorem dJ9_floorMod_7cf53_5 : decode cJ9_floorMod_7cf53 5 = .ok (.iload_n 1, 1) := by decide +kernel
theorem dJ9_floorMod_7cf53_6 : decode cJ9_floorMod_7cf53 6 = .ok (.ixor, 1) := by decide +kernel
theorem dJ9_floorMod_7cf53_7 : decode cJ9_floorMod_7cf53 7 = .ok (.ifCond .ge 11, 3) := by decide +kernel
theorem dJ9_floorMod_7cf53_10 : decode cJ9_floorMod_7cf53 10 = .ok (.iload_n 2, 1) := by decide +kernel
theorem dJ9_floorMod_7cf53_11 : decode cJ9_floorMod_7cf53 11 = .ok (.ifCond .eq 7, 3) := by decide +kernel
theorem dJ9_floorMod_7cf53_14 : decode cJ9_floorMod_7cf53 14 = .ok (.iload_n 2, 1) := by decide +kernel
theorem dJ9_floorMod_7cf53_15 : decode cJ9_floorMod_7cf53 15 = .ok (.iload_n 1, 1) := by decide +kernel
theorem dJ9_floorMod_7cf53_16 : decode cJ9_floorMod_7cf53 16 = .ok (.iadd, 1) := by decide +kernel
theorem dJ9_floorMod_7cf53_17 : decode cJ9_floorMod_7cf53 17 = .ok (.ireturn, 1) := by decide +kernel
theorem dJ9_floorMod_7cf53_18 : decode cJ9_floorMod_7cf53 18 = .ok (.iload_n 2, 1) := by decide +kernel
theorem dJ9_floorMod_7cf53_19 : decode cJ9_floorMod_7cf53 19 = .ok (.ireturn, 1) := by decide +kernel
theorem dJ9_max_7cf53_0 : decode cJ9_max_7cf53 0 = .ok (.iload_n 0, 1) := by decide +kernel
theorem dJ9_max_7cf53_1 : decode cJ9_max_7cf53 1 = .ok (.iload_n 1, 1) := by decide +kernel
theorem dJ9_max_7cf53_2 : decode cJ9_max_7cf53 2 = .ok (.if_icmp .lt 7, 3) := by decide +kernel
theorem dJ9_max_7cf53_5 : decode cJ9_max_7cf53 5 = .ok (.iload_n 0, 1) := by decide +kernel
theorem dJ9_max_7cf53_6 : decode cJ9_max_7cf53 6 = .ok (.goto 4, 3) := by decide +kernel
theorem dJ9_max_7cf53_9 : decode cJ9_max_7cf53 9 = .ok (.iload_n 1, 1) := by decide +kernel
theorem dJ9_max_7cf53_10 : decode cJ9_max_7cf53 10 = .ok (.ireturn, 1) := by decide +kernel
theorem dJ9_min_7cf53_0 : decode cJ9_min_7cf53 0 = .ok (.iload_n 0, 1) := by decide +kernel
theorem dJ9_min_7cf53_1 : decode cJ9_min_7cf53 1 = .ok (.iload_n 1, 1) := by decide +kernel
theorem dJ9_min_7cf53_2 : decode cJ9_min_7cf53 2 = .ok (.if_icmp .gt 7, 3) := by decide +kernel
theorem dJ9_min_7cf53_5 : decode cJ9_min_7cf53 5 = .ok (.iload_n 0, 1) := by decide +kernel
theorem dJ9_min_7cf53_6 : decode cJ9_min_7cf53 6 = .ok (.goto 4, 3) := by decide +kernel
theorem dJ9_min_7cf53_9 : decode cJ9_min_7cf53 9 = .ok (.iload_n 1, 1) := by decide +kernel
theorem dJ9_min_7cf53_10 : decode cJ9_min_7cf53 10 = .ok (.ireturn, 1) := by decide +kernel
theorem dJxa1e45_init_da8c8_0 : decode cJxa1e45_init_da8c8 0 = .ok (.aload_n 0, 1) := by decide +kernel
theorem dJxa1e45_init_da8c8_1 : decode cJxa1e45_init_da8c8 1 = .ok (.invokespecial 1, 3) := by decide +kernel
theorem dJxa1e45_init_da8c8_4 : decode cJxa1e45_init_da8c8 4 = .ok (.return_, 1) := by decide +kernel
theorem dJxc12de_init_da8c8_0 : decode cJxc12de_init_da8c8 0 = .ok (.aload_n 0, 1) := by decide +kernel
theorem dJxc12de_init_da8c8_1 : decode cJxc12de_init_da8c8 1 = .ok (.invokespecial 1, 3) := by decide +kernel
theorem dJxc12de_init_da8c8_4 : decode cJxc12de_init_da8c8 4 = .ok (.aload_n 0, 1) := by decide +kernel
theorem dJxc12de_init_da8c8_5 : decode cJxc12de_init_da8c8 5 = .ok (.iconst 0, 1) := by decide +kernel
theorem dJxc12de_init_da8c8_6 : decode cJxc12de_init_da8c8 6 = .ok (.putfield 7, 3) := by decide +kernel
theorem dJxc12de_init_da8c8_9 : decode cJxc12de_init_da8c8 9 = .ok (.return_, 1) := by decide +kernel
theorem dJx4a65c_init_da8c8_0 : decode cJx4a65c_init_da8c8 0 = .ok (.aload_n 0, 1) := by decide +kernel
theorem dJx4a65c_init_da8c8_1 : decode cJx4a65c_init_da8c8 1 = .ok (.invokespecial 1, 3) := by decide +kernel
theorem dJx4a65c_init_da8c8_4 : decode cJx4a65c_init_da8c8 4 = .ok (.aload_n 0, 1) := by decide +kernel
theorem dJx4a65c_init_da8c8_5 : decode cJx4a65c_init_da8c8 5 = .ok (.getstatic 39, 3) := by decide +kernel
theorem dJx4a65c_init_da8c8_8 : decode cJx4a65c_init_da8c8 8 = .ok (.putfield 9, 3) := by decide +kernel
theorem dJx4a65c_init_da8c8_11 : decode cJx4a65c_init_da8c8 11 = .ok (.return_, 1) := by decide +kernel
theorem dJx4a65c_grow_92f84_0 : decode cJx4a65c_grow_92f84 0 = .ok (.aload_n 0, 1) := by decide +kernel
theorem dJx4a65c_grow_92f84_1 : decode cJx4a65c_grow_92f84 1 = .ok (.getfield 9, 3) := by decide +kernel
theorem dJx4a65c_grow_92f84_4 : decode cJx4a65c_grow_92f84 4 = .ok (.arraylength, 1) := by decide +kernel
theorem dJx4a65c_grow_92f84_5 : decode cJx4a65c_grow_92f84 5 = .ok (.istore_n 2, 1) := by decide +kernel
theorem dJx4a65c_grow_92f84_6 : decode cJx4a65c_grow_92f84 6 = .ok (.iload_n 2, 1) := by decide +kernel
theorem dJx4a65c_grow_92f84_7 : decode cJx4a65c_grow_92f84 7 = .ok (.ifCond .gt 13, 3) := by decide +kernel
theorem dJx4a65c_grow_92f84_10 : decode cJx4a65c_grow_92f84 10 = .ok (.aload_n 0, 1) := by decide +kernel
theorem dJx4a65c_grow_92f84_11 : decode cJx4a65c_grow_92f84 11 = .ok (.getfield 9, 3) := by decide +kernel
theorem dJx4a65c_grow_92f84_14 : decode cJx4a65c_grow_92f84 14 = .ok (.getstatic 39, 3) := by decide +kernel
theorem dJx4a65c_grow_92f84_17 : decode cJx4a65c_grow_92f84 17 = .ok (.if_acmp .eq 28, 3) := by decide +kernel
theorem dJx4a65c_grow_92f84_20 : decode cJx4a65c_grow_92f84 20 = .ok (.iload_n 2, 1) := by decide +kernel
theorem dJx4a65c_grow_92f84_21 : decode cJx4a65c_grow_92f84 21 = .ok (.iload_n 1, 1) := by decide +kernel
theorem dJx4a65c_grow_92f84_22 : decode cJx4a65c_grow_92f84 22 = .ok (.iload_n 2, 1) := by decide +kernel
theorem dJx4a65c_grow_92f84_23 : decode cJx4a65c_grow_92f84 23 = .ok (.isub, 1) := by decide +kernel
theorem dJx4a65c_grow_92f84_24 : decode cJx4a65c_grow_92f84 24 = .ok (.iload_n 2, 1) := by decide +kernel
theorem dJx4a65c_grow_92f84_25 : decode cJx4a65c_grow_92f84 25 = .ok (.iconst 1, 1) := by decide +kernel
theorem dJx4a65c_grow_92f84_26 : decode cJx4a65c_grow_92f84 26 = .ok (.ishr, 1) := by decide +kernel
theorem dJx4a65c_grow_92f84_27 : decode cJx4a65c_grow_92f84 27 = .ok (.invokestatic 73, 3) := by decide +kernel
theorem dJx4a65c_grow_92f84_30 : decode cJx4a65c_grow_92f84 30 = .ok (.istore_n 3, 1) := by decide +kernel
theorem dJx4a65c_grow_92f84_31 : decode cJx4a65c_grow_92f84 31 = .ok (.aload_n 0, 1) := by decide +kernel
theorem dJx4a65c_grow_92f84_32 : decode cJx4a65c_grow_92f84 32 = .ok (.aload_n 0, 1) := by decide +kernel
theorem dJx4a65c_grow_92f84_33 : decode cJx4a65c_grow_92f84 33 = .ok (.getfield 9, 3) := by decide +kernel
theorem dJx4a65c_grow_92f84_36 : decode cJx4a65c_grow_92f84 36 = .ok (.iload_n 3, 1) := by decide +kernel
theorem dJx4a65c_grow_92f84_37 : decode cJx4a65c_grow_92f84 37 = .ok (.invokestatic 66, 3) := by decide +kernel
theorem dJx4a65c_grow_92f84_40 : decode cJx4a65c_grow_92f84 40 = .ok (.dup_x1, 1) := by decide +kernel
theorem dJx4a65c_grow_92f84_41 : decode cJx4a65c_grow_92f84 41 = .ok (.putfield 9, 3) := by decide +kernel
theorem dJx4a65c_grow_92f84_44 : decode cJx4a65c_grow_92f84 44 = .ok (.areturn, 1) := by decide +kernel
theorem dJx4a65c_grow_92f84_45 : decode cJx4a65c_grow_92f84 45 = .ok (.aload_n 0, 1) := by decide +kernel
theorem dJx4a65c_grow_92f84_46 : decode cJx4a65c_grow_92f84 46 = .ok (.bipush 10, 2) := by decide +kernel
theorem dJx4a65c_grow_92f84_48 : decode cJx4a65c_grow_92f84 48 = .ok (.iload_n 1, 1) := by decide +kernel
theorem dJx4a65c_grow_92f84_49 : decode cJx4a65c_grow_92f84 49 = .ok (.invokestatic 79, 3) := by decide +kernel
theorem dJx4a65c_grow_92f84_52 : decode cJx4a65c_grow_92f84 52 = .ok (.anewarray 7, 3) := by decide +kernel
theorem dJx4a65c_grow_92f84_55 : decode cJx4a65c_grow_92f84 55 = .ok (.dup_x1, 1) := by decide +kernel
theorem dJx4a65c_grow_92f84_56 : decode cJx4a65c_grow_92f84 56 = .ok (.putfield 9, 3) := by decide +kernel
theorem dJx4a65c_grow_92f84_59 : decode cJx4a65c_grow_92f84 59 = .ok (.areturn, 1) := by decide +kernel
theorem dJx4a65c_grow_d5877_0 : decode cJx4a65c_grow_d5877 0 = .ok (.aload_n 0, 1) := by decide +kernel
theorem dJx4a65c_grow_d5877_1 : decode cJx4a65c_grow_d5877 1 = .ok (.aload_n 0, 1) := by decide +kernel
theorem dJx4a65c_grow_d5877_2 : decode cJx4a65c_grow_d5877 2 = .ok (.getfield 48, 3) := by decide +kernel
theorem dJx4a65c_grow_d5877_5 : decode cJx4a65c_grow_d5877 5 = .ok (.iconst 1, 1) := by decide +kernel
theorem dJx4a65c_grow_d5877_6 : decode cJx4a65c_grow_d5877 6 = .ok (.iadd, 1) := by decide +kernel
theorem dJx4a65c_grow_d5877_7 : decode cJx4a65c_grow_d5877 7 = .ok (.invokevirtual 69, 3) := by decide +kernel
theorem dJx4a65c_grow_d5877_10 : decode cJx4a65c_grow_d5877 10 = .ok (.areturn, 1) := by decide +kernel
theorem dJx4a65c_size_8abf5_0 : decode cJx4a65c_size_8abf5 0 = .ok (.aload_n 0, 1) := by decide +kernel
theorem dJx4a65c_size_8abf5_1 : decode cJx4a65c_size_8abf5 1 = .ok (.getfield 48, 3) := by decide +kernel
theorem dJx4a65c_size_8abf5_4 : decode cJx4a65c_size_8abf5 4 = .ok (.ireturn, 1) := by decide +kernel
theorem dJx4a65c_elementData_915e3_0 : decode cJx4a65c_elementData_915e3 0 = .ok (.aload_n 0, 1) := by decide +kernel
theorem dJx4a65c_elementData_915e3_1 : decode cJx4a65c_elementData_915e3 1 = .ok (.getfield 9, 3) := by decide +kernel
theorem dJx4a65c_elementData_915e3_4 : decode cJx4a65c_elementData_915e3 4 = .ok (.iload_n 1, 1) := by decide +kernel
theorem dJx4a65c_elementData_915e3_5 : decode cJx4a65c_elementData_915e3 5 = .ok (.aaload, 1) := by decide +kernel
theorem dJx4a65c_elementData_915e3_6 : decode cJx4a65c_elementData_915e3 6 = .ok (.areturn, 1) := by decide +kernel
theorem dJx4a65c_get_915e3_0 : decode cJx4a65c_get_915e3 0 = .ok (.iload_n 1, 1) := by decide +kernel
theorem dJx4a65c_get_915e3_1 : decode cJx4a65c_get_915e3 1 = .ok (.aload_n 0, 1) := by decide +kernel
theorem dJx4a65c_get_915e3_2 : decode cJx4a65c_get_915e3 2 = .ok (.getfield 48, 3) := by decide +kernel
theorem dJx4a65c_get_915e3_5 : decode cJx4a65c_get_915e3 5 = .ok (.invokestatic 118, 3) := by decide +kernel
theorem dJx4a65c_get_915e3_8 : decode cJx4a65c_get_915e3 8 = .ok (.pop, 1) := by decide +kernel
theorem dJx4a65c_get_915e3_9 : decode cJx4a65c_get_915e3 9 = .ok (.aload_n 0, 1) := by decide +kernel
theorem dJx4a65c_get_915e3_10 : decode cJx4a65c_get_915e3 10 = .ok (.iload_n 1, 1) := by decide +kernel
theorem dJx4a65c_get_915e3_11 : decode cJx4a65c_get_915e3 11 = .ok (.invokevirtual 123, 3) := by decide +kernel
theorem dJx4a65c_get_915e3_14 : decode cJx4a65c_get_915e3 14 = .ok (.areturn, 1) := by decide +kernel
theorem dJx4a65c_add_72be8_0 : decode cJx4a65c_add_72be8 0 = .ok (.iload_n 3, 1) := by decide +kernel
theorem dJx4a65c_add_72be8_1 : decode cJx4a65c_add_72be8 1 = .ok (.aload_n 2, 1) := by decide +kernel
theorem dJx4a65c_add_72be8_2 : decode cJx4a65c_add_72be8 2 = .ok (.arraylength, 1) := by decide +kernel
theorem dJx4a65c_add_72be8_3 : decode cJx4a65c_add_72be8 3 = .ok (.if_icmp .ne 8, 3) := by decide +kernel
theorem dJx4a65c_add_72be8_6 : decode cJx4a65c_add_72be8 6 = .ok (.aload_n 0, 1) := by decide +kernel
theorem dJx4a65c_add_72be8_7 : decode cJx4a65c_add_72be8 7 = .ok (.invokevirtual 129, 3) := by decide +kernel
theorem dJx4a65c_add_72be8_10 : decode cJx4a65c_add_72be8 10 = .ok (.astore_n 2, 1) := by decide +kernel
theorem dJx4a65c_add_72be8_11 : decode cJx4a65c_add_72be8 11 = .ok (.aload_n 2, 1) := by decide +kernel
theorem dJx4a65c_add_72be8_12 : decode cJx4a65c_add_72be8 12 = .ok (.iload_n 3, 1) := by decide +kernel
theorem dJx4a65c_add_72be8_13 : decode cJx4a65c_add_72be8 13 = .ok (.aload_n 1, 1) := by decide +kernel
theorem dJx4a65c_add_72be8_14 : decode cJx4a65c_add_72be8 14 = .ok (.aastore, 1) := by decide +kernel
theorem dJx4a65c_add_72be8_15 : decode cJx4a65c_add_72be8 15 = .ok (.aload_n 0, 1) := by decide +kernel
theorem dJx4a65c_add_72be8_16 : decode cJx4a65c_add_72be8 16 = .ok (.iload_n 3, 1) := by decide +kernel
theorem dJx4a65c_add_72be8_17 : decode cJx4a65c_add_72be8 17 = .ok (.iconst 1, 1) := by decide +kernel
theorem dJx4a65c_add_72be8_18 : decode cJx4a65c_add_72be8 18 = .ok (.iadd, 1) := by decide +kernel
theorem dJx4a65c_add_72be8_19 : decode cJx4a65c_add_72be8 19 = .ok (.putfield 48, 3) := by decide +kernel
theorem dJx4a65c_add_72be8_22 : decode cJx4a65c_add_72be8 22 = .ok (.return_, 1) := by decide +kernel
theorem dJx4a65c_add_9ea2d_0 : decode cJx4a65c_add_9ea2d 0 = .ok (.aload_n 0, 1) := by decide +kernel
theorem dJx4a65c_add_9ea2d_1 : decode cJx4a65c_add_9ea2d 1 = .ok (.dup, 1) := by decide +kernel
theorem dJx4a65c_add_9ea2d_2 : decode cJx4a65c_add_9ea2d 2 = .ok (.getfield 63, 3) := by decide +kernel
theorem dJx4a65c_add_9ea2d_5 : decode cJx4a65c_add_9ea2d 5 = .ok (.iconst 1, 1) := by decide +kernel
theorem dJx4a65c_add_9ea2d_6 : decode cJx4a65c_add_9ea2d 6 = .ok (.iadd, 1) := by decide +kernel
theorem dJx4a65c_add_9ea2d_7 : decode cJx4a65c_add_9ea2d 7 = .ok (.putfield 63, 3) := by decide +kernel
theorem dJx4a65c_add_9ea2d_10 : decode cJx4a65c_add_9ea2d 10 = .ok (.aload_n 0, 1) := by decide +kernel
theorem dJx4a65c_add_9ea2d_11 : decode cJx4a65c_add_9ea2d 11 = .ok (.aload_n 1, 1) := by decide +kernel
theorem dJx4a65c_add_9ea2d_12 : decode cJx4a65c_add_9ea2d 12 = .ok (.aload_n 0, 1) := by decide +kernel
theorem dJx4a65c_add_9ea2d_13 : decode cJx4a65c_add_9ea2d 13 = .ok (.getfield 9, 3) := by decide +kernel
theorem dJx4a65c_add_9ea2d_16 : decode cJx4a65c_add_9ea2d 16 = .ok (.aload_n 0, 1) := by decide +kernel
theorem dJx4a65c_add_9ea2d_17 : decode cJx4a65c_add_9ea2d 17 = .ok (.getfield 48, 3) := by decide +kernel
theorem dJx4a65c_add_9ea2d_20 : decode cJx4a65c_add_9ea2d 20 = .ok (.invokevirtual 131, 3) := by decide +kernel
theorem dJx4a65c_add_9ea2d_23 : decode cJx4a65c_add_9ea2d 23 = .ok (.iconst 1, 1) := by decide +kernel
theorem dJx4a65c_add_9ea2d_24 : decode cJx4a65c_add_9ea2d 24 = .ok (.ireturn, 1) := by decide +kernel
theorem dJ7_copyOf_1904c_0 : decode cJ7_copyOf_1904c 0 = .ok (.aload_n 0, 1) := by decide +kernel
theorem dJ7_copyOf_1904c_1 : decode cJ7_copyOf_1904c 1 = .ok (.iload_n 1, 1) := by decide +kernel
theorem dJ7_copyOf_1904c_2 : decode cJ7_copyOf_1904c 2 = .ok (.aload_n 0, 1) := by decide +kernel
theorem dJ7_copyOf_1904c_3 : decode cJ7_copyOf_1904c 3 = .ok (.invokevirtual 86, 3) := by decide +kernel
theorem dJ7_copyOf_1904c_6 : decode cJ7_copyOf_1904c 6 = .ok (.invokestatic 300, 3) := by decide +kernel
theorem dJ7_copyOf_1904c_9 : decode cJ7_copyOf_1904c 9 = .ok (.areturn, 1) := by decide +kernel
theorem dJ7_copyOf_6403c_0 : decode cJ7_copyOf_6403c 0 = .ok (.aload_n 2, 1) := by decide +kernel
theorem dJ7_copyOf_6403c_1 : decode cJ7_copyOf_6403c 1 = .ok (.ldc 110, 2) := by decide +kernel
theorem dJ7_copyOf_6403c_3 : decode cJ7_copyOf_6403c 3 = .ok (.if_acmp .ne 10, 3) := by decide +kernel
theorem dJ7_copyOf_6403c_6 : decode cJ7_copyOf_6403c 6 = .ok (.iload_n 1, 1) := by decide +kernel
theorem dJ7_copyOf_6403c_7 : decode cJ7_copyOf_6403c 7 = .ok (.anewarray 2, 3) := by decide +kernel
theorem dJ7_copyOf_6403c_10 : decode cJ7_copyOf_6403c 10 = .ok (.goto 14, 3) := by decide +kernel
theorem dJ7_copyOf_6403c_13 : decode cJ7_copyOf_6403c 13 = .ok (.aload_n 2, 1) := by decide +kernel
theorem dJ7_copyOf_6403c_14 : decode cJ7_copyOf_6403c 14 = .ok (.invokevirtual 90, 3) := by decide +kernel
theorem dJ7_copyOf_6403c_17 : decode cJ7_copyOf_6403c 17 = .ok (.iload_n 1, 1) := by decide +kernel
theorem dJ7_copyOf_6403c_18 : decode cJ7_copyOf_6403c 18 = .ok (.invokestatic 95, 3) := by decide +kernel
theorem dJ7_copyOf_6403c_21 : decode cJ7_copyOf_6403c 21 = .ok (.checkcast 110, 3) := by decide +kernel
theorem dJ7_copyOf_6403c_24 : decode cJ7_copyOf_6403c 24 = .ok (.astore_n 3, 1) := by decide +kernel
theorem dJ7_copyOf_6403c_25 : decode cJ7_copyOf_6403c 25 = .ok (.aload_n 0, 1) := by decide +kernel
theorem dJ7_copyOf_6403c_26 : decode cJ7_copyOf_6403c 26 = .ok (.iconst 0, 1) := by decide +kernel
theorem dJ7_copyOf_6403c_27 : decode cJ7_copyOf_6403c 27 = .ok (.aload_n 3, 1) := by decide +kernel
theorem dJ7_copyOf_6403c_28 : decode cJ7_copyOf_6403c 28 = .ok (.iconst 0, 1) := by decide +kernel
theorem dJ7_copyOf_6403c_29 : decode cJ7_copyOf_6403c 29 = .ok (.aload_n 0, 1) := by decide +kernel
theorem dJ7_copyOf_6403c_30 : decode cJ7_copyOf_6403c 30 = .ok (.arraylength, 1) := by decide +kernel
theorem dJ7_copyOf_6403c_31 : decode cJ7_copyOf_6403c 31 = .ok (.iload_n 1, 1) := by decide +kernel
theorem dJ7_copyOf_6403c_32 : decode cJ7_copyOf_6403c 32 = .ok (.invokestatic 304, 3) := by decide +kernel
theorem dJ7_copyOf_6403c_35 : decode cJ7_copyOf_6403c 35 = .ok (.invokestatic 150, 3) := by decide +kernel
theorem dJ7_copyOf_6403c_38 : decode cJ7_copyOf_6403c 38 = .ok (.aload_n 3, 1) := by decide +kernel
theorem dJ7_copyOf_6403c_39 : decode cJ7_copyOf_6403c 39 = .ok (.areturn, 1) := by decide +kernel
theorem dJ15_checkIndex_7cf53_0 : decode cJ15_checkIndex_7cf53 0 = .ok (.iload_n 0, 1) := by decide +kernel
theorem dJ15_checkIndex_7cf53_1 : decode cJ15_checkIndex_7cf53 1 = .ok (.iload_n 1, 1) := by decide +kernel
theorem dJ15_checkIndex_7cf53_2 : decode cJ15_checkIndex_7cf53 2 = .ok (.aconst_null, 1) := by decide +kernel
theorem dJ15_checkIndex_7cf53_3 : decode cJ15_checkIndex_7cf53 3 = .ok (.invokestatic 105, 3) := by decide +kernel
theorem dJ15_checkIndex_7cf53_6 : decode cJ15_checkIndex_7cf53 6 = .ok (.ireturn, 1) := by decide +kernel
theorem dJ8_newLength_cabcc_0 : decode cJ8_newLength_cabcc 0 = .ok (.iload_n 0, 1) := by decide +kernel
theorem dJ8_newLength_cabcc_1 : decode cJ8_newLength_cabcc 1 = .ok (.iload_n 1, 1) := by decide +kernel
theorem dJ8_newLength_cabcc_2 : decode cJ8_newLength_cabcc 2 = .ok (.iload_n 2, 1) := by decide +kernel
theorem dJ8_newLength_cabcc_3 : decode cJ8_newLength_cabcc 3 = .ok (.invokestatic 194, 3) := by decide +kernel
theorem dJ8_newLength_cabcc_6 : decode cJ8_newLength_cabcc 6 = .ok (.iadd, 1) := by decide +kernel
theorem dJ8_newLength_cabcc_7 : decode cJ8_newLength_cabcc 7 = .ok (.istore_n 3, 1) := by decide +kernel
theorem dJ8_newLength_cabcc_8 : decode cJ8_newLength_cabcc 8 = .ok (.iconst 0, 1) := by decide +kernel
theorem dJ8_newLength_cabcc_9 : decode cJ8_newLength_cabcc 9 = .ok (.iload_n 3, 1) := by decide +kernel
theorem dJ8_newLength_cabcc_10 : decode cJ8_newLength_cabcc 10 = .ok (.if_icmp .ge 11, 3) := by decide +kernel
theorem dJ8_newLength_cabcc_13 : decode cJ8_newLength_cabcc 13 = .ok (.iload_n 3, 1) := by decide +kernel
theorem dJ8_newLength_cabcc_14 : decode cJ8_newLength_cabcc 14 = .ok (.ldc 200, 2) := by decide +kernel
theorem dJ8_newLength_cabcc_16 : decode cJ8_newLength_cabcc 16 = .ok (.if_icmp .gt 5, 3) := by decide +kernel
theorem dJ8_newLength_cabcc_19 : decode cJ8_newLength_cabcc 19 = .ok (.iload_n 3, 1) := by decide +kernel
theorem dJ8_newLength_cabcc_20 : decode cJ8_newLength_cabcc 20 = .ok (.ireturn, 1) := by decide +kernel
theorem dJ8_newLength_cabcc_21 : decode cJ8_newLength_cabcc 21 = .ok (.iload_n 0, 1) := by decide +kernel
theorem dJ8_newLength_cabcc_22 : decode cJ8_newLength_cabcc 22 = .ok (.iload_n 1, 1) := by decide +kernel
theorem dJ8_newLength_cabcc_23 : decode cJ8_newLength_cabcc 23 = .ok (.invokestatic 201, 3) := by decide +kernel
theorem dJ8_newLength_cabcc_26 : decode cJ8_newLength_cabcc 26 = .ok (.ireturn, 1) := by decide +kernel
theorem dJ8_hugeLength_7cf53_0 : decode cJ8_hugeLength_7cf53 0 = .ok (.iload_n 0, 1) := by decide +kernel
theorem dJ8_hugeLength_7cf53_1 : decode cJ8_hugeLength_7cf53 1 = .ok (.iload_n 1, 1) := by decide +kernel
theorem dJ8_hugeLength_7cf53_2 : decode cJ8_hugeLength_7cf53 2 = .ok (.iadd, 1) := by decide +kernel
theorem dJ8_hugeLength_7cf53_3 : decode cJ8_hugeLength_7cf53 3 = .ok (.istore_n 2, 1) := by decide +kernel
theorem dJ8_hugeLength_7cf53_4 : decode cJ8_hugeLength_7cf53 4 = .ok (.iload_n 2, 1) := by decide +kernel
theorem dJ8_hugeLength_7cf53_5 : decode cJ8_hugeLength_7cf53 5 = .ok (.ifCond .ge 44, 3) := by decide +kernel
theorem dJ8_hugeLength_7cf53_8 : decode cJ8_hugeLength_7cf53 8 = .ok (.new 204, 3) := by decide +kernel
theorem dJ8_hugeLength_7cf53_11 : decode cJ8_hugeLength_7cf53 11 = .ok (.dup, 1) := by decide +kernel
theorem dJ8_hugeLength_7cf53_12 : decode cJ8_hugeLength_7cf53 12 = .ok (.new 89, 3) := by decide +kernel
theorem dJ8_hugeLength_7cf53_15 : decode cJ8_hugeLength_7cf53 15 = .ok (.dup, 1) := by decide +kernel
theorem dJ8_hugeLength_7cf53_16 : decode cJ8_hugeLength_7cf53 16 = .ok (.invokespecial 91, 3) := by decide +kernel
theorem dJ8_hugeLength_7cf53_19 : decode cJ8_hugeLength_7cf53 19 = .ok (.ldc 206, 2) := by decide +kernel
theorem dJ8_hugeLength_7cf53_21 : decode cJ8_hugeLength_7cf53 21 = .ok (.invokevirtual 94, 3) := by decide +kernel
theorem dJ8_hugeLength_7cf53_24 : decode cJ8_hugeLength_7cf53 24 = .ok (.iload_n 0, 1) := by decide +kernel
theorem dJ8_hugeLength_7cf53_25 : decode cJ8_hugeLength_7cf53 25 = .ok (.invokevirtual 98, 3) := by decide +kernel
theorem dJ8_hugeLength_7cf53_28 : decode cJ8_hugeLength_7cf53 28 = .ok (.ldc 208, 2) := by decide +kernel
theorem dJ8_hugeLength_7cf53_30 : decode cJ8_hugeLength_7cf53 30 = .ok (.invokevirtual 94, 3) := by decide +kernel
theorem dJ8_hugeLength_7cf53_33 : decode cJ8_hugeLength_7cf53 33 = .ok (.iload_n 1, 1) := by decide +kernel
theorem dJ8_hugeLength_7cf53_34 : decode cJ8_hugeLength_7cf53 34 = .ok (.invokevirtual 98, 3) := by decide +kernel
theorem dJ8_hugeLength_7cf53_37 : decode cJ8_hugeLength_7cf53 37 = .ok (.ldc 210, 2) := by decide +kernel
theorem dJ8_hugeLength_7cf53_39 : decode cJ8_hugeLength_7cf53 39 = .ok (.invokevirtual 94, 3) := by decide +kernel
theorem dJ8_hugeLength_7cf53_42 : decode cJ8_hugeLength_7cf53 42 = .ok (.invokevirtual 101, 3) := by decide +kernel
theorem dJ8_hugeLength_7cf53_45 : decode cJ8_hugeLength_7cf53 45 = .ok (.invokespecial 212, 3) := by decide +kernel
theorem dJ8_hugeLength_7cf53_48 : decode cJ8_hugeLength_7cf53 48 = .ok (.athrow, 1) := by decide +kernel
theorem dJ8_hugeLength_7cf53_49 : decode cJ8_hugeLength_7cf53 49 = .ok (.iload_n 2, 1) := by decide +kernel
theorem dJ8_hugeLength_7cf53_50 : decode cJ8_hugeLength_7cf53 50 = .ok (.ldc 200, 2) := by decide +kernel
theorem dJ8_hugeLength_7cf53_52 : decode cJ8_hugeLength_7cf53 52 = .ok (.if_icmp .gt 6, 3) := by decide +kernel
theorem dJ8_hugeLength_7cf53_55 : decode cJ8_hugeLength_7cf53 55 = .ok (.ldc 200, 2) := by decide +kernel
theorem dJ8_hugeLength_7cf53_57 : decode cJ8_hugeLength_7cf53 57 = .ok (.ireturn, 1) := by decide +kernel
theorem dJ8_hugeLength_7cf53_58 : decode cJ8_hugeLength_7cf53 58 = .ok (.iload_n 2, 1) := by decide +kernel
theorem dJ8_hugeLength_7cf53_59 : decode cJ8_hugeLength_7cf53 59 = .ok (.ireturn, 1) := by decide +kernel
theorem dJ3_checkIndex_8e157_0 : decode cJ3_checkIndex_8e157 0 = .ok (.iload_n 0, 1) := by decide +kernel
theorem dJ3_checkIndex_8e157_1 : decode cJ3_checkIndex_8e157 1 = .ok (.ifCond .lt 8, 3) := by decide +kernel
theorem dJ3_checkIndex_8e157_4 : decode cJ3_checkIndex_8e157 4 = .ok (.iload_n 0, 1) := by decide +kernel
theorem dJ3_checkIndex_8e157_5 : decode cJ3_checkIndex_8e157 5 = .ok (.iload_n 1, 1) := by decide +kernel
theorem dJ3_checkIndex_8e157_6 : decode cJ3_checkIndex_8e157 6 = .ok (.if_icmp .lt 10, 3) := by decide +kernel
theorem dJ3_checkIndex_8e157_9 : decode cJ3_checkIndex_8e157 9 = .ok (.aload_n 2, 1) := by decide +kernel
theorem dJ3_checkIndex_8e157_10 : decode cJ3_checkIndex_8e157 10 = .ok (.iload_n 0, 1) := by decide +kernel
theorem dJ3_checkIndex_8e157_11 : decode cJ3_checkIndex_8e157 11 = .ok (.iload_n 1, 1) := by decide +kernel
theorem dJ3_checkIndex_8e157_12 : decode cJ3_checkIndex_8e157 12 = .ok (.invokestatic 95, 3) := by decide +kernel
theorem dJ3_checkIndex_8e157_15 : decode cJ3_checkIndex_8e157 15 = .ok (.athrow, 1) := by decide +kernel
theorem dJ3_checkIndex_8e157_16 : decode cJ3_checkIndex_8e157 16 = .ok (.iload_n 0, 1) := by decide +kernel
theorem dJ3_checkIndex_8e157_17 : decode cJ3_checkIndex_8e157 17 = .ok (.ireturn, 1) := by decide +kernel
theorem dX0_init_0 : decode cX0_init 0 = .ok (.aload_n 0, 1) := by decide +kernel
theorem dX0_init_1 : decode cX0_init 1 = .ok (.invokespecial 3, 3) := by decide +kernel
theorem dX0_init_4 : decode cX0_init 4 = .ok (.aload_n 0, 1) := by decide +kernel
theorem dX0_init_5 : decode cX0_init 5 = .ok (.new 9, 3) := by decide +kernel
theorem dX0_init_8 : decode cX0_init 8 = .ok (.dup, 1) := by decide +kernel
theorem dX0_init_9 : decode cX0_init 9 = .ok (.invokespecial 11, 3) := by decide +kernel
theorem dX0_init_12 : decode cX0_init 12 = .ok (.putfield 12, 3) := by decide +kernel
theorem dX0_init_15 : decode cX0_init 15 = .ok (.aload_n 0, 1) := by decide +kernel
theorem dX0_init_16 : decode cX0_init 16 = .ok (.new 9, 3) := by decide +kernel
theorem dX0_init_19 : decode cX0_init 19 = .ok (.dup, 1) := by decide +kernel
theorem dX0_init_20 : decode cX0_init 20 = .ok (.invokespecial 11, 3) := by decide +kernel
theorem dX0_init_23 : decode cX0_init 23 = .ok (.putfield 18, 3) := by decide +kernel
theorem dX0_init_26 : decode cX0_init 26 = .ok (.return_, 1) := by decide +kernel
theorem dX0_holidaysOf_0 : decode cX0_holidaysOf 0 = .ok (.iload_n 1, 1) := by decide +kernel
theorem dX0_holidaysOf_1 : decode cX0_holidaysOf 1 = .ok (.ifCond .ne 10, 3) := by decide +kernel
theorem dX0_holidaysOf_4 : decode cX0_holidaysOf 4 = .ok (.aload_n 0, 1) := by decide +kernel
theorem dX0_holidaysOf_5 : decode cX0_holidaysOf 5 = .ok (.getfield 12, 3) := by decide +kernel
theorem dX0_holidaysOf_8 : decode cX0_holidaysOf 8 = .ok (.goto 7, 3) := by decide +kernel
theorem dX0_holidaysOf_11 : decode cX0_holidaysOf 11 = .ok (.aload_n 0, 1) := by decide +kernel
theorem dX0_holidaysOf_12 : decode cX0_holidaysOf 12 = .ok (.getfield 18, 3) := by decide +kernel
theorem dX0_holidaysOf_15 : decode cX0_holidaysOf 15 = .ok (.areturn, 1) := by decide +kernel
theorem dX0_opensOn_0 : decode cX0_opensOn 0 = .ok (.iload_n 1, 1) := by decide +kernel
theorem dX0_opensOn_1 : decode cX0_opensOn 1 = .ok (.bipush 7, 2) := by decide +kernel
theorem dX0_opensOn_3 : decode cX0_opensOn 3 = .ok (.invokestatic 21, 3) := by decide +kernel
theorem dX0_opensOn_6 : decode cX0_opensOn 6 = .ok (.iconst 5, 1) := by decide +kernel
theorem dX0_opensOn_7 : decode cX0_opensOn 7 = .ok (.if_icmp .ge 29, 3) := by decide +kernel
theorem dX0_opensOn_10 : decode cX0_opensOn 10 = .ok (.aload_n 0, 1) := by decide +kernel
theorem dX0_opensOn_11 : decode cX0_opensOn 11 = .ok (.getfield 12, 3) := by decide +kernel
theorem dX0_opensOn_14 : decode cX0_opensOn 14 = .ok (.iload_n 1, 1) := by decide +kernel
theorem dX0_opensOn_15 : decode cX0_opensOn 15 = .ok (.invokevirtual 27, 3) := by decide +kernel
theorem dX0_opensOn_18 : decode cX0_opensOn 18 = .ok (.ifCond .ne 18, 3) := by decide +kernel
theorem dX0_opensOn_21 : decode cX0_opensOn 21 = .ok (.aload_n 0, 1) := by decide +kernel
theorem dX0_opensOn_22 : decode cX0_opensOn 22 = .ok (.getfield 18, 3) := by decide +kernel
theorem dX0_opensOn_25 : decode cX0_opensOn 25 = .ok (.iload_n 1, 1) := by decide +kernel
theorem dX0_opensOn_26 : decode cX0_opensOn 26 = .ok (.invokevirtual 27, 3) := by decide +kernel
theorem dX0_opensOn_29 : decode cX0_opensOn 29 = .ok (.ifCond .ne 7, 3) := by decide +kernel
theorem dX0_opensOn_32 : decode cX0_opensOn 32 = .ok (.iconst 1, 1) := by decide +kernel
theorem dX0_opensOn_33 : decode cX0_opensOn 33 = .ok (.goto 4, 3) := by decide +kernel
theorem dX0_opensOn_36 : decode cX0_opensOn 36 = .ok (.iconst 0, 1) := by decide +kernel
theorem dX0_opensOn_37 : decode cX0_opensOn 37 = .ok (.ireturn, 1) := by decide +kernel
theorem dX0_rolledDayOf_0 : decode cX0_rolledDayOf 0 = .ok (.iload_n 1, 1) := by decide +kernel
theorem dX0_rolledDayOf_1 : decode cX0_rolledDayOf 1 = .ok (.istore_n 2, 1) := by decide +kernel
theorem dX0_rolledDayOf_2 : decode cX0_rolledDayOf 2 = .ok (.iconst 0, 1) := by decide +kernel
theorem dX0_rolledDayOf_3 : decode cX0_rolledDayOf 3 = .ok (.istore_n 3, 1) := by decide +kernel
theorem dX0_rolledDayOf_4 : decode cX0_rolledDayOf 4 = .ok (.iload_n 3, 1) := by decide +kernel
theorem dX0_rolledDayOf_5 : decode cX0_rolledDayOf 5 = .ok (.sipush 1000, 3) := by decide +kernel
theorem dX0_rolledDayOf_8 : decode cX0_rolledDayOf 8 = .ok (.if_icmp .ge 20, 3) := by decide +kernel
theorem dX0_rolledDayOf_11 : decode cX0_rolledDayOf 11 = .ok (.aload_n 0, 1) := by decide +kernel
theorem dX0_rolledDayOf_12 : decode cX0_rolledDayOf 12 = .ok (.iload_n 2, 1) := by decide +kernel
theorem dX0_rolledDayOf_13 : decode cX0_rolledDayOf 13 = .ok (.invokevirtual 31, 3) := by decide +kernel
theorem dX0_rolledDayOf_16 : decode cX0_rolledDayOf 16 = .ok (.ifCond .ne 12, 3) := by decide +kernel
theorem dX0_rolledDayOf_19 : decode cX0_rolledDayOf 19 = .ok (.iinc 2 1, 3) := by decide +kernel
theorem dX0_rolledDayOf_22 : decode cX0_rolledDayOf 22 = .ok (.iinc 3 1, 3) := by decide +kernel
theorem dX0_rolledDayOf_25 : decode cX0_rolledDayOf 25 = .ok (.goto (-21), 3) := by decide +kernel
theorem dX0_rolledDayOf_28 : decode cX0_rolledDayOf 28 = .ok (.iload_n 2, 1) := by decide +kernel
theorem dX0_rolledDayOf_29 : decode cX0_rolledDayOf 29 = .ok (.ireturn, 1) := by decide +kernel
theorem dX1_init_0 : decode cX1_init 0 = .ok (.aload_n 0, 1) := by decide +kernel
theorem dX1_init_1 : decode cX1_init 1 = .ok (.invokespecial 3, 3) := by decide +kernel
theorem dX1_init_4 : decode cX1_init 4 = .ok (.aload_n 0, 1) := by decide +kernel
theorem dX1_init_5 : decode cX1_init 5 = .ok (.new 9, 3) := by decide +kernel
theorem dX1_init_8 : decode cX1_init 8 = .ok (.dup, 1) := by decide +kernel
theorem dX1_init_9 : decode cX1_init 9 = .ok (.invokespecial 11, 3) := by decide +kernel
theorem dX1_init_12 : decode cX1_init 12 = .ok (.putfield 12, 3) := by decide +kernel
theorem dX1_init_15 : decode cX1_init 15 = .ok (.return_, 1) := by decide +kernel
theorem dX1_count_0 : decode cX1_count 0 = .ok (.aload_n 0, 1) := by decide +kernel
theorem dX1_count_1 : decode cX1_count 1 = .ok (.getfield 12, 3) := by decide +kernel
theorem dX1_count_4 : decode cX1_count 4 = .ok (.invokevirtual 18, 3) := by decide +kernel
theorem dX1_count_7 : decode cX1_count 7 = .ok (.ireturn, 1) := by decide +kernel
theorem dX1_has_0 : decode cX1_has 0 = .ok (.aload_n 0, 1) := by decide +kernel
theorem dX1_has_1 : decode cX1_has 1 = .ok (.iload_n 1, 1) := by decide +kernel
theorem dX1_has_2 : decode cX1_has 2 = .ok (.invokevirtual 22, 3) := by decide +kernel
theorem dX1_has_5 : decode cX1_has 5 = .ok (.ifnull 7, 3) := by decide +kernel
theorem dX1_has_8 : decode cX1_has 8 = .ok (.iconst 1, 1) := by decide +kernel
theorem dX1_has_9 : decode cX1_has 9 = .ok (.goto 4, 3) := by decide +kernel
theorem dX1_has_12 : decode cX1_has 12 = .ok (.iconst 0, 1) := by decide +kernel
theorem dX1_has_13 : decode cX1_has 13 = .ok (.ireturn, 1) := by decide +kernel
theorem dX1_add_0 : decode cX1_add 0 = .ok (.aload_n 0, 1) := by decide +kernel
theorem dX1_add_1 : decode cX1_add 1 = .ok (.getfield 12, 3) := by decide +kernel
theorem dX1_add_4 : decode cX1_add 4 = .ok (.new 26, 3) := by decide +kernel
theorem dX1_add_7 : decode cX1_add 7 = .ok (.dup, 1) := by decide +kernel
theorem dX1_add_8 : decode cX1_add 8 = .ok (.iload_n 1, 1) := by decide +kernel
theorem dX1_add_9 : decode cX1_add 9 = .ok (.iload_n 2, 1) := by decide +kernel
theorem dX1_add_10 : decode cX1_add 10 = .ok (.invokespecial 28, 3) := by decide +kernel
theorem dX1_add_13 : decode cX1_add 13 = .ok (.invokevirtual 31, 3) := by decide +kernel
theorem dX1_add_16 : decode cX1_add 16 = .ok (.pop, 1) := by decide +kernel
theorem dX1_add_17 : decode cX1_add 17 = .ok (.return_, 1) := by decide +kernel
theorem dX1_put_0 : decode cX1_put 0 = .ok (.aload_n 0, 1) := by decide +kernel
theorem dX1_put_1 : decode cX1_put 1 = .ok (.iload_n 1, 1) := by decide +kernel
theorem dX1_put_2 : decode cX1_put 2 = .ok (.invokevirtual 22, 3) := by decide +kernel
theorem dX1_put_5 : decode cX1_put 5 = .ok (.astore_n 3, 1) := by decide +kernel
theorem dX1_put_6 : decode cX1_put 6 = .ok (.aload_n 3, 1) := by decide +kernel
theorem dX1_put_7 : decode cX1_put 7 = .ok (.ifnonnull 12, 3) := by decide +kernel
theorem dX1_put_10 : decode cX1_put 10 = .ok (.aload_n 0, 1) := by decide +kernel
theorem dX1_put_11 : decode cX1_put 11 = .ok (.iload_n 1, 1) := by decide +kernel
theorem dX1_put_12 : decode cX1_put 12 = .ok (.iload_n 2, 1) := by decide +kernel
theorem dX1_put_13 : decode cX1_put 13 = .ok (.invokevirtual 35, 3) := by decide +kernel
theorem dX1_put_16 : decode cX1_put 16 = .ok (.goto 8, 3) := by decide +kernel
theorem dX1_put_19 : decode cX1_put 19 = .ok (.aload_n 3, 1) := by decide +kernel
theorem dX1_put_20 : decode cX1_put 20 = .ok (.iload_n 2, 1) := by decide +kernel
theorem dX1_put_21 : decode cX1_put 21 = .ok (.putfield 37, 3) := by decide +kernel
theorem dX1_put_24 : decode cX1_put 24 = .ok (.return_, 1) := by decide +kernel
theorem dX1_latestValue_0 : decode cX1_latestValue 0 = .ok (.iconst (-1), 1) := by decide +kernel
theorem dX1_latestValue_1 : decode cX1_latestValue 1 = .ok (.istore_n 3, 1) := by decide +kernel
theorem dX1_latestValue_2 : decode cX1_latestValue 2 = .ok (.iload_n 2, 1) := by decide +kernel
theorem dX1_latestValue_3 : decode cX1_latestValue 3 = .ok (.istore 4, 2) := by decide +kernel
theorem dX1_latestValue_5 : decode cX1_latestValue 5 = .ok (.iconst 0, 1) := by decide +kernel
theorem dX1_latestValue_6 : decode cX1_latestValue 6 = .ok (.istore 5, 2) := by decide +kernel
theorem dX1_latestValue_8 : decode cX1_latestValue 8 = .ok (.iload 5, 2) := by decide +kernel
theorem dX1_latestValue_10 : decode cX1_latestValue 10 = .ok (.aload_n 0, 1) := by decide +kernel
theorem dX1_latestValue_11 : decode cX1_latestValue 11 = .ok (.getfield 12, 3) := by decide +kernel
theorem dX1_latestValue_14 : decode cX1_latestValue 14 = .ok (.invokevirtual 18, 3) := by decide +kernel
theorem dX1_latestValue_17 : decode cX1_latestValue 17 = .ok (.if_icmp .ge 54, 3) := by decide +kernel
theorem dX1_latestValue_20 : decode cX1_latestValue 20 = .ok (.aload_n 0, 1) := by decide +kernel
theorem dX1_latestValue_21 : decode cX1_latestValue 21 = .ok (.getfield 12, 3) := by decide +kernel
theorem dX1_latestValue_24 : decode cX1_latestValue 24 = .ok (.iload 5, 2) := by decide +kernel
theorem dX1_latestValue_26 : decode cX1_latestValue 26 = .ok (.invokevirtual 41, 3) := by decide +kernel
theorem dX1_latestValue_29 : decode cX1_latestValue 29 = .ok (.checkcast 26, 3) := by decide +kernel
theorem dX1_latestValue_32 : decode cX1_latestValue 32 = .ok (.astore 6, 2) := by decide +kernel
theorem dX1_latestValue_34 : decode cX1_latestValue 34 = .ok (.aload 6, 2) := by decide +kernel
theorem dX1_latestValue_36 : decode cX1_latestValue 36 = .ok (.getfield 45, 3) := by decide +kernel
theorem dX1_latestValue_39 : decode cX1_latestValue 39 = .ok (.iload_n 1, 1) := by decide +kernel
theorem dX1_latestValue_40 : decode cX1_latestValue 40 = .ok (.if_icmp .gt 25, 3) := by decide +kernel
theorem dX1_latestValue_43 : decode cX1_latestValue 43 = .ok (.aload 6, 2) := by decide +kernel
theorem dX1_latestValue_45 : decode cX1_latestValue 45 = .ok (.getfield 45, 3) := by decide +kernel
theorem dX1_latestValue_48 : decode cX1_latestValue 48 = .ok (.iload_n 3, 1) := by decide +kernel
theorem dX1_latestValue_49 : decode cX1_latestValue 49 = .ok (.if_icmp .lt 16, 3) := by decide +kernel
theorem dX1_latestValue_52 : decode cX1_latestValue 52 = .ok (.aload 6, 2) := by decide +kernel
theorem dX1_latestValue_54 : decode cX1_latestValue 54 = .ok (.getfield 45, 3) := by decide +kernel
theorem dX1_latestValue_57 : decode cX1_latestValue 57 = .ok (.istore_n 3, 1) := by decide +kernel
theorem dX1_latestValue_58 : decode cX1_latestValue 58 = .ok (.aload 6, 2) := by decide +kernel
theorem dX1_latestValue_60 : decode cX1_latestValue 60 = .ok (.getfield 37, 3) := by decide +kernel
theorem dX1_latestValue_63 : decode cX1_latestValue 63 = .ok (.istore 4, 2) := by decide +kernel
theorem dX1_latestValue_65 : decode cX1_latestValue 65 = .ok (.iinc 5 1, 3) := by decide +kernel
theorem dX1_latestValue_68 : decode cX1_latestValue 68 = .ok (.goto (-60), 3) := by decide +kernel
theorem dX1_latestValue_71 : decode cX1_latestValue 71 = .ok (.iload 4, 2) := by decide +kernel
theorem dX1_latestValue_73 : decode cX1_latestValue 73 = .ok (.ireturn, 1) := by decide +kernel
theorem dX1_sumUntil_0 : decode cX1_sumUntil 0 = .ok (.iconst 0, 1) := by decide +kernel
theorem dX1_sumUntil_1 : decode cX1_sumUntil 1 = .ok (.istore_n 2, 1) := by decide +kernel
theorem dX1_sumUntil_2 : decode cX1_sumUntil 2 = .ok (.iconst 0, 1) := by decide +kernel
theorem dX1_sumUntil_3 : decode cX1_sumUntil 3 = .ok (.istore_n 3, 1) := by decide +kernel
theorem dX1_sumUntil_4 : decode cX1_sumUntil 4 = .ok (.iload_n 3, 1) := by decide +kernel
theorem dX1_sumUntil_5 : decode cX1_sumUntil 5 = .ok (.aload_n 0, 1) := by decide +kernel
theorem dX1_sumUntil_6 : decode cX1_sumUntil 6 = .ok (.getfield 12, 3) := by decide +kernel
theorem dX1_sumUntil_9 : decode cX1_sumUntil 9 = .ok (.invokevirtual 18, 3) := by decide +kernel
theorem dX1_sumUntil_12 : decode cX1_sumUntil 12 = .ok (.if_icmp .ge 39, 3) := by decide +kernel
theorem dX1_sumUntil_15 : decode cX1_sumUntil 15 = .ok (.aload_n 0, 1) := by decide +kernel
theorem dX1_sumUntil_16 : decode cX1_sumUntil 16 = .ok (.getfield 12, 3) := by decide +kernel
theorem dX1_sumUntil_19 : decode cX1_sumUntil 19 = .ok (.iload_n 3, 1) := by decide +kernel
theorem dX1_sumUntil_20 : decode cX1_sumUntil 20 = .ok (.invokevirtual 41, 3) := by decide +kernel
theorem dX1_sumUntil_23 : decode cX1_sumUntil 23 = .ok (.checkcast 26, 3) := by decide +kernel
theorem dX1_sumUntil_26 : decode cX1_sumUntil 26 = .ok (.astore 4, 2) := by decide +kernel
theorem dX1_sumUntil_28 : decode cX1_sumUntil 28 = .ok (.aload 4, 2) := by decide +kernel
theorem dX1_sumUntil_30 : decode cX1_sumUntil 30 = .ok (.getfield 45, 3) := by decide +kernel
theorem dX1_sumUntil_33 : decode cX1_sumUntil 33 = .ok (.iload_n 1, 1) := by decide +kernel
theorem dX1_sumUntil_34 : decode cX1_sumUntil 34 = .ok (.if_icmp .gt 11, 3) := by decide +kernel
theorem dX1_sumUntil_37 : decode cX1_sumUntil 37 = .ok (.iload_n 2, 1) := by decide +kernel
theorem dX1_sumUntil_38 : decode cX1_sumUntil 38 = .ok (.aload 4, 2) := by decide +kernel
theorem dX1_sumUntil_40 : decode cX1_sumUntil 40 = .ok (.getfield 37, 3) := by decide +kernel
theorem dX1_sumUntil_43 : decode cX1_sumUntil 43 = .ok (.iadd, 1) := by decide +kernel
theorem dX1_sumUntil_44 : decode cX1_sumUntil 44 = .ok (.istore_n 2, 1) := by decide +kernel
theorem dX1_sumUntil_45 : decode cX1_sumUntil 45 = .ok (.iinc 3 1, 3) := by decide +kernel
theorem dX1_sumUntil_48 : decode cX1_sumUntil 48 = .ok (.goto (-44), 3) := by decide +kernel
theorem dX1_sumUntil_51 : decode cX1_sumUntil 51 = .ok (.iload_n 2, 1) := by decide +kernel
theorem dX1_sumUntil_52 : decode cX1_sumUntil 52 = .ok (.ireturn, 1) := by decide +kernel
theorem dX1_entryOf_0 : decode cX1_entryOf 0 = .ok (.iconst 0, 1) := by decide +kernel
theorem dX1_entryOf_1 : decode cX1_entryOf 1 = .ok (.istore_n 2, 1) := by decide +kernel
theorem dX1_entryOf_2 : decode cX1_entryOf 2 = .ok (.iload_n 2, 1) := by decide +kernel
theorem dX1_entryOf_3 : decode cX1_entryOf 3 = .ok (.aload_n 0, 1) := by decide +kernel
theorem dX1_entryOf_4 : decode cX1_entryOf 4 = .ok (.getfield 12, 3) := by decide +kernel
theorem dX1_entryOf_7 : decode cX1_entryOf 7 = .ok (.invokevirtual 18, 3) := by decide +kernel
theorem dX1_entryOf_10 : decode cX1_entryOf 10 = .ok (.if_icmp .ge 31, 3) := by decide +kernel
theorem dX1_entryOf_13 : decode cX1_entryOf 13 = .ok (.aload_n 0, 1) := by decide +kernel
theorem dX1_entryOf_14 : decode cX1_entryOf 14 = .ok (.getfield 12, 3) := by decide +kernel
theorem dX1_entryOf_17 : decode cX1_entryOf 17 = .ok (.iload_n 2, 1) := by decide +kernel
theorem dX1_entryOf_18 : decode cX1_entryOf 18 = .ok (.invokevirtual 41, 3) := by decide +kernel
theorem dX1_entryOf_21 : decode cX1_entryOf 21 = .ok (.checkcast 26, 3) := by decide +kernel
theorem dX1_entryOf_24 : decode cX1_entryOf 24 = .ok (.astore_n 3, 1) := by decide +kernel
theorem dX1_entryOf_25 : decode cX1_entryOf 25 = .ok (.aload_n 3, 1) := by decide +kernel
theorem dX1_entryOf_26 : decode cX1_entryOf 26 = .ok (.getfield 45, 3) := by decide +kernel
theorem dX1_entryOf_29 : decode cX1_entryOf 29 = .ok (.iload_n 1, 1) := by decide +kernel
theorem dX1_entryOf_30 : decode cX1_entryOf 30 = .ok (.if_icmp .ne 5, 3) := by decide +kernel
theorem dX1_entryOf_33 : decode cX1_entryOf 33 = .ok (.aload_n 3, 1) := by decide +kernel
theorem dX1_entryOf_34 : decode cX1_entryOf 34 = .ok (.areturn, 1) := by decide +kernel
theorem dX1_entryOf_35 : decode cX1_entryOf 35 = .ok (.iinc 2 1, 3) := by decide +kernel
theorem dX1_entryOf_38 : decode cX1_entryOf 38 = .ok (.goto (-36), 3) := by decide +kernel
theorem dX1_entryOf_41 : decode cX1_entryOf 41 = .ok (.aconst_null, 1) := by decide +kernel
theorem dX1_entryOf_42 : decode cX1_entryOf 42 = .ok (.areturn, 1) := by decide +kernel
theorem dX2_init_0 : decode cX2_init 0 = .ok (.aload_n 0, 1) := by decide +kernel
theorem dX2_init_1 : decode cX2_init 1 = .ok (.invokespecial 1, 3) := by decide +kernel
theorem dX2_init_4 : decode cX2_init 4 = .ok (.aload_n 0, 1) := by decide +kernel
theorem dX2_init_5 : decode cX2_init 5 = .ok (.iload_n 1, 1) := by decide +kernel
theorem dX2_init_6 : decode cX2_init 6 = .ok (.putfield 7, 3) := by decide +kernel
theorem dX2_init_9 : decode cX2_init 9 = .ok (.aload_n 0, 1) := by decide +kernel
theorem dX2_init_10 : decode cX2_init 10 = .ok (.iload_n 2, 1) := by decide +kernel
theorem dX2_init_11 : decode cX2_init 11 = .ok (.putfield 13, 3) := by decide +kernel
theorem dX2_init_14 : decode cX2_init 14 = .ok (.return_, 1) := by decide +kernel
theorem dX3_init_0 : decode cX3_init 0 = .ok (.aload_n 0, 1) := by decide +kernel
theorem dX3_init_1 : decode cX3_init 1 = .ok (.invokespecial 3, 3) := by decide +kernel
theorem dX3_init_4 : decode cX3_init 4 = .ok (.aload_n 0, 1) := by decide +kernel
theorem dX3_init_5 : decode cX3_init 5 = .ok (.iload_n 1, 1) := by decide +kernel
theorem dX3_init_6 : decode cX3_init 6 = .ok (.putfield 9, 3) := by decide +kernel
theorem dX3_init_9 : decode cX3_init 9 = .ok (.aload_n 0, 1) := by decide +kernel
theorem dX3_init_10 : decode cX3_init 10 = .ok (.iload_n 2, 1) := by decide +kernel
theorem dX3_init_11 : decode cX3_init 11 = .ok (.putfield 15, 3) := by decide +kernel
theorem dX3_init_14 : decode cX3_init 14 = .ok (.aload_n 0, 1) := by decide +kernel
theorem dX3_init_15 : decode cX3_init 15 = .ok (.iload_n 3, 1) := by decide +kernel
theorem dX3_init_16 : decode cX3_init 16 = .ok (.putfield 18, 3) := by decide +kernel
theorem dX3_init_19 : decode cX3_init 19 = .ok (.aload_n 0, 1) := by decide +kernel
theorem dX3_init_20 : decode cX3_init 20 = .ok (.iload 4, 2) := by decide +kernel
theorem dX3_init_22 : decode cX3_init 22 = .ok (.putfield 22, 3) := by decide +kernel
theorem dX3_init_25 : decode cX3_init 25 = .ok (.aload_n 0, 1) := by decide +kernel
theorem dX3_init_26 : decode cX3_init 26 = .ok (.iload 5, 2) := by decide +kernel
theorem dX3_init_28 : decode cX3_init 28 = .ok (.putfield 25, 3) := by decide +kernel
theorem dX3_init_31 : decode cX3_init 31 = .ok (.aload_n 0, 1) := by decide +kernel
theorem dX3_init_32 : decode cX3_init 32 = .ok (.iload 6, 2) := by decide +kernel
theorem dX3_init_34 : decode cX3_init 34 = .ok (.putfield 28, 3) := by decide +kernel
theorem dX3_init_37 : decode cX3_init 37 = .ok (.aload_n 0, 1) := by decide +kernel
theorem dX3_init_38 : decode cX3_init 38 = .ok (.iload 7, 2) := by decide +kernel
theorem dX3_init_40 : decode cX3_init 40 = .ok (.putfield 31, 3) := by decide +kernel
theorem dX3_init_43 : decode cX3_init 43 = .ok (.aload_n 0, 1) := by decide +kernel
theorem dX3_init_44 : decode cX3_init 44 = .ok (.iconst 0, 1) := by decide +kernel
theorem dX3_init_45 : decode cX3_init 45 = .ok (.putfield 34, 3) := by decide +kernel
theorem dX3_init_48 : decode cX3_init 48 = .ok (.aload_n 0, 1) := by decide +kernel
theorem dX3_init_49 : decode cX3_init 49 = .ok (.iconst 0, 1) := by decide +kernel
theorem dX3_init_50 : decode cX3_init 50 = .ok (.putfield 37, 3) := by decide +kernel
theorem dX3_init_53 : decode cX3_init 53 = .ok (.aload_n 0, 1) := by decide +kernel
theorem dX3_init_54 : decode cX3_init 54 = .ok (.iconst 0, 1) := by decide +kernel
theorem dX3_init_55 : decode cX3_init 55 = .ok (.putfield 40, 3) := by decide +kernel
theorem dX3_init_58 : decode cX3_init 58 = .ok (.aload_n 0, 1) := by decide +kernel
theorem dX3_init_59 : decode cX3_init 59 = .ok (.new 43, 3) := by decide +kernel
theorem dX3_init_62 : decode cX3_init 62 = .ok (.dup, 1) := by decide +kernel
theorem dX3_init_63 : decode cX3_init 63 = .ok (.invokespecial 45, 3) := by decide +kernel
theorem dX3_init_66 : decode cX3_init 66 = .ok (.putfield 46, 3) := by decide +kernel
theorem dX3_init_69 : decode cX3_init 69 = .ok (.aload_n 0, 1) := by decide +kernel
theorem dX3_init_70 : decode cX3_init 70 = .ok (.new 43, 3) := by decide +kernel
theorem dX3_init_73 : decode cX3_init 73 = .ok (.dup, 1) := by decide +kernel
theorem dX3_init_74 : decode cX3_init 74 = .ok (.invokespecial 45, 3) := by decide +kernel
theorem dX3_init_77 : decode cX3_init 77 = .ok (.putfield 50, 3) := by decide +kernel
theorem dX3_init_80 : decode cX3_init 80 = .ok (.aload_n 0, 1) := by decide +kernel
theorem dX3_init_81 : decode cX3_init 81 = .ok (.bipush 11, 2) := by decide +kernel
theorem dX3_init_83 : decode cX3_init 83 = .ok (.newarray .int, 2) := by decide +kernel
theorem dX3_init_85 : decode cX3_init 85 = .ok (.putfield 53, 3) := by decide +kernel
theorem dX3_init_88 : decode cX3_init 88 = .ok (.return_, 1) := by decide +kernel
theorem dX3_rollDays_0 : decode cX3_rollDays 0 = .ok (.iconst 0, 1) := by decide +kernel
theorem dX3_rollDays_1 : decode cX3_rollDays 1 = .ok (.istore_n 2, 1) := by decide +kernel
theorem dX3_rollDays_2 : decode cX3_rollDays 2 = .ok (.iload_n 2, 1) := by decide +kernel
theorem dX3_rollDays_3 : decode cX3_rollDays 3 = .ok (.aload_n 0, 1) := by decide +kernel
theorem dX3_rollDays_4 : decode cX3_rollDays 4 = .ok (.getfield 31, 3) := by decide +kernel
theorem dX3_rollDays_7 : decode cX3_rollDays 7 = .ok (.if_icmp .gt 39, 3) := by decide +kernel
theorem dX3_rollDays_10 : decode cX3_rollDays 10 = .ok (.iload_n 2, 1) := by decide +kernel
theorem dX3_rollDays_11 : decode cX3_rollDays 11 = .ok (.aload_n 0, 1) := by decide +kernel
theorem dX3_rollDays_12 : decode cX3_rollDays 12 = .ok (.getfield 53, 3) := by decide +kernel
theorem dX3_rollDays_15 : decode cX3_rollDays 15 = .ok (.arraylength, 1) := by decide +kernel
theorem dX3_rollDays_16 : decode cX3_rollDays 16 = .ok (.if_icmp .ge 30, 3) := by decide +kernel
theorem dX3_rollDays_19 : decode cX3_rollDays 19 = .ok (.aload_n 0, 1) := by decide +kernel
theorem dX3_rollDays_20 : decode cX3_rollDays 20 = .ok (.getfield 53, 3) := by decide +kernel
theorem dX3_rollDays_23 : decode cX3_rollDays 23 = .ok (.iload_n 2, 1) := by decide +kernel
theorem dX3_rollDays_24 : decode cX3_rollDays 24 = .ok (.aload_n 1, 1) := by decide +kernel
theorem dX3_rollDays_25 : decode cX3_rollDays 25 = .ok (.aload_n 0, 1) := by decide +kernel
theorem dX3_rollDays_26 : decode cX3_rollDays 26 = .ok (.getfield 25, 3) := by decide +kernel
theorem dX3_rollDays_29 : decode cX3_rollDays 29 = .ok (.iload_n 2, 1) := by decide +kernel
theorem dX3_rollDays_30 : decode cX3_rollDays 30 = .ok (.aload_n 0, 1) := by decide +kernel
theorem dX3_rollDays_31 : decode cX3_rollDays 31 = .ok (.getfield 28, 3) := by decide +kernel
theorem dX3_rollDays_34 : decode cX3_rollDays 34 = .ok (.imul, 1) := by decide +kernel
theorem dX3_rollDays_35 : decode cX3_rollDays 35 = .ok (.iadd, 1) := by decide +kernel
theorem dX3_rollDays_36 : decode cX3_rollDays 36 = .ok (.invokevirtual 57, 3) := by decide +kernel
theorem dX3_rollDays_39 : decode cX3_rollDays 39 = .ok (.iastore, 1) := by decide +kernel
theorem dX3_rollDays_40 : decode cX3_rollDays 40 = .ok (.iinc 2 1, 3) := by decide +kernel
theorem dX3_rollDays_43 : decode cX3_rollDays 43 = .ok (.goto (-41), 3) := by decide +kernel
theorem dX3_rollDays_46 : decode cX3_rollDays 46 = .ok (.return_, 1) := by decide +kernel
theorem dX3_startOf_0 : decode cX3_startOf 0 = .ok (.iload_n 1, 1) := by decide +kernel
theorem dX3_startOf_1 : decode cX3_startOf 1 = .ok (.ifCond .lt 21, 3) := by decide +kernel
theorem dX3_startOf_4 : decode cX3_startOf 4 = .ok (.iload_n 1, 1) := by decide +kernel
theorem dX3_startOf_5 : decode cX3_startOf 5 = .ok (.aload_n 0, 1) := by decide +kernel
theorem dX3_startOf_6 : decode cX3_startOf 6 = .ok (.getfield 53, 3) := by decide +kernel
theorem dX3_startOf_9 : decode cX3_startOf 9 = .ok (.arraylength, 1) := by decide +kernel
theorem dX3_startOf_10 : decode cX3_startOf 10 = .ok (.if_icmp .ge 12, 3) := by decide +kernel
theorem dX3_startOf_13 : decode cX3_startOf 13 = .ok (.aload_n 0, 1) := by decide +kernel
theorem dX3_startOf_14 : decode cX3_startOf 14 = .ok (.getfield 53, 3) := by decide +kernel
theorem dX3_startOf_17 : decode cX3_startOf 17 = .ok (.iload_n 1, 1) := by decide +kernel
theorem dX3_startOf_18 : decode cX3_startOf 18 = .ok (.iaload, 1) := by decide +kernel
theorem dX3_startOf_19 : decode cX3_startOf 19 = .ok (.goto 4, 3) := by decide +kernel
theorem dX3_startOf_22 : decode cX3_startOf 22 = .ok (.iconst (-1), 1) := by decide +kernel
theorem dX3_startOf_23 : decode cX3_startOf 23 = .ok (.ireturn, 1) := by decide +kernel
theorem dX3_endOf_0 : decode cX3_endOf 0 = .ok (.aload_n 0, 1) := by decide +kernel
theorem dX3_endOf_1 : decode cX3_endOf 1 = .ok (.iload_n 1, 1) := by decide +kernel
theorem dX3_endOf_2 : decode cX3_endOf 2 = .ok (.iconst 1, 1) := by decide +kernel
theorem dX3_endOf_3 : decode cX3_endOf 3 = .ok (.iadd, 1) := by decide +kernel
theorem dX3_endOf_4 : decode cX3_endOf 4 = .ok (.invokevirtual 63, 3) := by decide +kernel
theorem dX3_endOf_7 : decode cX3_endOf 7 = .ok (.ireturn, 1) := by decide +kernel
theorem dX3_lotsOf_0 : decode cX3_lotsOf 0 = .ok (.aload_n 0, 1) := by decide +kernel
theorem dX3_lotsOf_1 : decode cX3_lotsOf 1 = .ok (.getfield 15, 3) := by decide +kernel
theorem dX3_lotsOf_4 : decode cX3_lotsOf 4 = .ok (.aload_n 0, 1) := by decide +kernel
theorem dX3_lotsOf_5 : decode cX3_lotsOf 5 = .ok (.getfield 46, 3) := by decide +kernel
theorem dX3_lotsOf_8 : decode cX3_lotsOf 8 = .ok (.aload_n 0, 1) := by decide +kernel
theorem dX3_lotsOf_9 : decode cX3_lotsOf 9 = .ok (.iload_n 1, 1) := by decide +kernel
theorem dX3_lotsOf_10 : decode cX3_lotsOf 10 = .ok (.invokevirtual 63, 3) := by decide +kernel
theorem dX3_lotsOf_13 : decode cX3_lotsOf 13 = .ok (.invokevirtual 66, 3) := by decide +kernel
theorem dX3_lotsOf_16 : decode cX3_lotsOf 16 = .ok (.isub, 1) := by decide +kernel
theorem dX3_lotsOf_17 : decode cX3_lotsOf 17 = .ok (.ireturn, 1) := by decide +kernel
theorem dX3_restOfLots_0 : decode cX3_restOfLots 0 = .ok (.aload_n 0, 1) := by decide +kernel
theorem dX3_restOfLots_1 : decode cX3_restOfLots 1 = .ok (.getfield 15, 3) := by decide +kernel
theorem dX3_restOfLots_4 : decode cX3_restOfLots 4 = .ok (.aload_n 0, 1) := by decide +kernel
theorem dX3_restOfLots_5 : decode cX3_restOfLots 5 = .ok (.getfield 46, 3) := by decide +kernel
theorem dX3_restOfLots_8 : decode cX3_restOfLots 8 = .ok (.sipush 3000, 3) := by decide +kernel
theorem dX3_restOfLots_11 : decode cX3_restOfLots 11 = .ok (.invokevirtual 66, 3) := by decide +kernel
theorem dX3_restOfLots_14 : decode cX3_restOfLots 14 = .ok (.isub, 1) := by decide +kernel
theorem dX3_restOfLots_15 : decode cX3_restOfLots 15 = .ok (.ireturn, 1) := by decide +kernel
theorem dX3_holderOn_0 : decode cX3_holderOn 0 = .ok (.aload_n 0, 1) := by decide +kernel
theorem dX3_holderOn_1 : decode cX3_holderOn 1 = .ok (.getfield 50, 3) := by decide +kernel
theorem dX3_holderOn_4 : decode cX3_holderOn 4 = .ok (.iload_n 1, 1) := by decide +kernel
theorem dX3_holderOn_5 : decode cX3_holderOn 5 = .ok (.aload_n 0, 1) := by decide +kernel
theorem dX3_holderOn_6 : decode cX3_holderOn 6 = .ok (.getfield 9, 3) := by decide +kernel
theorem dX3_holderOn_9 : decode cX3_holderOn 9 = .ok (.invokevirtual 69, 3) := by decide +kernel
theorem dX3_holderOn_12 : decode cX3_holderOn 12 = .ok (.ireturn, 1) := by decide +kernel
theorem dX3_floatingOf_0 : decode cX3_floatingOf 0 = .ok (.aload_n 0, 1) := by decide +kernel
theorem dX3_floatingOf_1 : decode cX3_floatingOf 1 = .ok (.getfield 40, 3) := by decide +kernel
theorem dX3_floatingOf_4 : decode cX3_floatingOf 4 = .ok (.ifCond .ne 22, 3) := by decide +kernel
theorem dX3_floatingOf_7 : decode cX3_floatingOf 7 = .ok (.aload_n 0, 1) := by decide +kernel
theorem dX3_floatingOf_8 : decode cX3_floatingOf 8 = .ok (.iload_n 1, 1) := by decide +kernel
theorem dX3_floatingOf_9 : decode cX3_floatingOf 9 = .ok (.aload_n 2, 1) := by decide +kernel
theorem dX3_floatingOf_10 : decode cX3_floatingOf 10 = .ok (.invokevirtual 73, 3) := by decide +kernel
theorem dX3_floatingOf_13 : decode cX3_floatingOf 13 = .ok (.aload_n 0, 1) := by decide +kernel
theorem dX3_floatingOf_14 : decode cX3_floatingOf 14 = .ok (.getfield 34, 3) := by decide +kernel
theorem dX3_floatingOf_17 : decode cX3_floatingOf 17 = .ok (.i2l, 1) := by decide +kernel
theorem dX3_floatingOf_18 : decode cX3_floatingOf 18 = .ok (.ladd, 1) := by decide +kernel
theorem dX3_floatingOf_19 : decode cX3_floatingOf 19 = .ok (.aload_n 0, 1) := by decide +kernel
theorem dX3_floatingOf_20 : decode cX3_floatingOf 20 = .ok (.iload_n 1, 1) := by decide +kernel
theorem dX3_floatingOf_21 : decode cX3_floatingOf 21 = .ok (.invokevirtual 77, 3) := by decide +kernel
theorem dX3_floatingOf_24 : decode cX3_floatingOf 24 = .ok (.lmul, 1) := by decide +kernel
theorem dX3_floatingOf_25 : decode cX3_floatingOf 25 = .ok (.lreturn, 1) := by decide +kernel
theorem dX3_floatingOf_26 : decode cX3_floatingOf 26 = .ok (.aload_n 0, 1) := by decide +kernel
theorem dX3_floatingOf_27 : decode cX3_floatingOf 27 = .ok (.getfield 40, 3) := by decide +kernel
theorem dX3_floatingOf_30 : decode cX3_floatingOf 30 = .ok (.iconst 1, 1) := by decide +kernel
theorem dX3_floatingOf_31 : decode cX3_floatingOf 31 = .ok (.if_icmp .ne 10, 3) := by decide +kernel
theorem dX3_floatingOf_34 : decode cX3_floatingOf 34 = .ok (.aload_n 0, 1) := by decide +kernel
theorem dX3_floatingOf_35 : decode cX3_floatingOf 35 = .ok (.getfield 34, 3) := by decide +kernel
theorem dX3_floatingOf_38 : decode cX3_floatingOf 38 = .ok (.goto 4, 3) := by decide +kernel
theorem dX3_floatingOf_41 : decode cX3_floatingOf 41 = .ok (.iconst 0, 1) := by decide +kernel
theorem dX3_floatingOf_42 : decode cX3_floatingOf 42 = .ok (.istore_n 3, 1) := by decide +kernel
theorem dX3_floatingOf_43 : decode cX3_floatingOf 43 = .ok (.aload_n 0, 1) := by decide +kernel
theorem dX3_floatingOf_44 : decode cX3_floatingOf 44 = .ok (.getfield 34, 3) := by decide +kernel
theorem dX3_floatingOf_47 : decode cX3_floatingOf 47 = .ok (.iload_n 3, 1) := by decide +kernel
theorem dX3_floatingOf_48 : decode cX3_floatingOf 48 = .ok (.isub, 1) := by decide +kernel
theorem dX3_floatingOf_49 : decode cX3_floatingOf 49 = .ok (.istore 4, 2) := by decide +kernel
theorem dX3_floatingOf_51 : decode cX3_floatingOf 51 = .ok (.lconst 0, 1) := by decide +kernel
theorem dX3_floatingOf_52 : decode cX3_floatingOf 52 = .ok (.lstore 5, 2) := by decide +kernel
theorem dX3_floatingOf_54 : decode cX3_floatingOf 54 = .ok (.lconst 0, 1) := by decide +kernel
theorem dX3_floatingOf_55 : decode cX3_floatingOf 55 = .ok (.lstore 7, 2) := by decide +kernel
theorem dX3_floatingOf_57 : decode cX3_floatingOf 57 = .ok (.iconst 0, 1) := by decide +kernel
theorem dX3_floatingOf_58 : decode cX3_floatingOf 58 = .ok (.istore 9, 2) := by decide +kernel
theorem dX3_floatingOf_60 : decode cX3_floatingOf 60 = .ok (.iload 9, 2) := by decide +kernel
theorem dX3_floatingOf_62 : decode cX3_floatingOf 62 = .ok (.iload_n 1, 1) := by decide +kernel
theorem dX3_floatingOf_63 : decode cX3_floatingOf 63 = .ok (.if_icmp .gt 61, 3) := by decide +kernel
theorem dX3_floatingOf_66 : decode cX3_floatingOf 66 = .ok (.iload 9, 2) := by decide +kernel
theorem dX3_floatingOf_68 : decode cX3_floatingOf 68 = .ok (.aload_n 0, 1) := by decide +kernel
theorem dX3_floatingOf_69 : decode cX3_floatingOf 69 = .ok (.getfield 31, 3) := by decide +kernel
theorem dX3_floatingOf_72 : decode cX3_floatingOf 72 = .ok (.if_icmp .ge 52, 3) := by decide +kernel
theorem dX3_floatingOf_75 : decode cX3_floatingOf 75 = .ok (.aload_n 0, 1) := by decide +kernel
theorem dX3_floatingOf_76 : decode cX3_floatingOf 76 = .ok (.iload 9, 2) := by decide +kernel
theorem dX3_floatingOf_78 : decode cX3_floatingOf 78 = .ok (.aload_n 2, 1) := by decide +kernel
theorem dX3_floatingOf_79 : decode cX3_floatingOf 79 = .ok (.invokevirtual 73, 3) := by decide +kernel
theorem dX3_floatingOf_82 : decode cX3_floatingOf 82 = .ok (.iload_n 3, 1) := by decide +kernel
theorem dX3_floatingOf_83 : decode cX3_floatingOf 83 = .ok (.i2l, 1) := by decide +kernel
theorem dX3_floatingOf_84 : decode cX3_floatingOf 84 = .ok (.ladd, 1) := by decide +kernel
theorem dX3_floatingOf_85 : decode cX3_floatingOf 85 = .ok (.lstore 10, 2) := by decide +kernel
theorem dX3_floatingOf_87 : decode cX3_floatingOf 87 = .ok (.ldc2_w 81, 3) := by decide +kernel
theorem dX3_floatingOf_90 : decode cX3_floatingOf 90 = .ok (.lload 5, 2) := by decide +kernel
theorem dX3_floatingOf_92 : decode cX3_floatingOf 92 = .ok (.ladd, 1) := by decide +kernel
theorem dX3_floatingOf_93 : decode cX3_floatingOf 93 = .ok (.lload 10, 2) := by decide +kernel
theorem dX3_floatingOf_95 : decode cX3_floatingOf 95 = .ok (.lmul, 1) := by decide +kernel
theorem dX3_floatingOf_96 : decode cX3_floatingOf 96 = .ok (.aload_n 0, 1) := by decide +kernel
theorem dX3_floatingOf_97 : decode cX3_floatingOf 97 = .ok (.iload 9, 2) := by decide +kernel
theorem dX3_floatingOf_99 : decode cX3_floatingOf 99 = .ok (.invokevirtual 77, 3) := by decide +kernel
theorem dX3_floatingOf_102 : decode cX3_floatingOf 102 = .ok (.lmul, 1) := by decide +kernel
theorem dX3_floatingOf_103 : decode cX3_floatingOf 103 = .ok (.ldc2_w 81, 3) := by decide +kernel
theorem dX3_floatingOf_106 : decode cX3_floatingOf 106 = .ok (.invokestatic 83, 3) := by decide +kernel
theorem dX3_floatingOf_109 : decode cX3_floatingOf 109 = .ok (.lstore 7, 2) := by decide +kernel
theorem dX3_floatingOf_111 : decode cX3_floatingOf 111 = .ok (.lload 5, 2) := by decide +kernel
theorem dX3_floatingOf_113 : decode cX3_floatingOf 113 = .ok (.lload 7, 2) := by decide +kernel
theorem dX3_floatingOf_115 : decode cX3_floatingOf 115 = .ok (.ladd, 1) := by decide +kernel
theorem dX3_floatingOf_116 : decode cX3_floatingOf 116 = .ok (.lstore 5, 2) := by decide +kernel
theorem dX3_floatingOf_118 : decode cX3_floatingOf 118 = .ok (.iinc 9 1, 3) := by decide +kernel
theorem dX3_floatingOf_121 : decode cX3_floatingOf 121 = .ok (.goto (-61), 3) := by decide +kernel
theorem dX3_floatingOf_124 : decode cX3_floatingOf 124 = .ok (.lload 7, 2) := by decide +kernel
theorem dX3_floatingOf_126 : decode cX3_floatingOf 126 = .ok (.iload 4, 2) := by decide +kernel
theorem dX3_floatingOf_128 : decode cX3_floatingOf 128 = .ok (.i2l, 1) := by decide +kernel
theorem dX3_floatingOf_129 : decode cX3_floatingOf 129 = .ok (.aload_n 0, 1) := by decide +kernel
theorem dX3_floatingOf_130 : decode cX3_floatingOf 130 = .ok (.iload_n 1, 1) := by decide +kernel
theorem dX3_floatingOf_131 : decode cX3_floatingOf 131 = .ok (.invokevirtual 77, 3) := by decide +kernel
theorem dX3_floatingOf_134 : decode cX3_floatingOf 134 = .ok (.lmul, 1) := by decide +kernel
theorem dX3_floatingOf_135 : decode cX3_floatingOf 135 = .ok (.ladd, 1) := by decide +kernel
theorem dX3_floatingOf_136 : decode cX3_floatingOf 136 = .ok (.lreturn, 1) := by decide +kernel
theorem dX3_flowOf_0 : decode cX3_flowOf 0 = .ok (.aload_n 0, 1) := by decide +kernel
theorem dX3_flowOf_1 : decode cX3_flowOf 1 = .ok (.iload_n 1, 1) := by decide +kernel
theorem dX3_flowOf_2 : decode cX3_flowOf 2 = .ok (.aload_n 2, 1) := by decide +kernel
theorem dX3_flowOf_3 : decode cX3_flowOf 3 = .ok (.invokevirtual 89, 3) := by decide +kernel
theorem dX3_flowOf_6 : decode cX3_flowOf 6 = .ok (.aload_n 0, 1) := by decide +kernel
theorem dX3_flowOf_7 : decode cX3_flowOf 7 = .ok (.getfield 22, 3) := by decide +kernel
theorem dX3_flowOf_10 : decode cX3_flowOf 10 = .ok (.i2l, 1) := by decide +kernel
theorem dX3_flowOf_11 : decode cX3_flowOf 11 = .ok (.aload_n 0, 1) := by decide +kernel
theorem dX3_flowOf_12 : decode cX3_flowOf 12 = .ok (.iload_n 1, 1) := by decide +kernel
theorem dX3_flowOf_13 : decode cX3_flowOf 13 = .ok (.invokevirtual 77, 3) := by decide +kernel
theorem dX3_flowOf_16 : decode cX3_flowOf 16 = .ok (.lmul, 1) := by decide +kernel
theorem dX3_flowOf_17 : decode cX3_flowOf 17 = .ok (.lsub, 1) := by decide +kernel
theorem dX3_flowOf_18 : decode cX3_flowOf 18 = .ok (.lstore_n 3, 1) := by decide +kernel
theorem dX3_flowOf_19 : decode cX3_flowOf 19 = .ok (.aload_n 0, 1) := by decide +kernel
theorem dX3_flowOf_20 : decode cX3_flowOf 20 = .ok (.iload_n 1, 1) := by decide +kernel
theorem dX3_flowOf_21 : decode cX3_flowOf 21 = .ok (.invokevirtual 92, 3) := by decide +kernel
theorem dX3_flowOf_24 : decode cX3_flowOf 24 = .ok (.i2l, 1) := by decide +kernel
theorem dX3_flowOf_25 : decode cX3_flowOf 25 = .ok (.aload_n 0, 1) := by decide +kernel
theorem dX3_flowOf_26 : decode cX3_flowOf 26 = .ok (.getfield 18, 3) := by decide +kernel
theorem dX3_flowOf_29 : decode cX3_flowOf 29 = .ok (.ifCond .eq 7, 3) := by decide +kernel
theorem dX3_flowOf_32 : decode cX3_flowOf 32 = .ok (.lload_n 3, 1) := by decide +kernel
theorem dX3_flowOf_33 : decode cX3_flowOf 33 = .ok (.goto 5, 3) := by decide +kernel
theorem dX3_flowOf_36 : decode cX3_flowOf 36 = .ok (.lload_n 3, 1) := by decide +kernel
theorem dX3_flowOf_37 : decode cX3_flowOf 37 = .ok (.lneg, 1) := by decide +kernel
theorem dX3_flowOf_38 : decode cX3_flowOf 38 = .ok (.lmul, 1) := by decide +kernel
theorem dX3_flowOf_39 : decode cX3_flowOf 39 = .ok (.lreturn, 1) := by decide +kernel
theorem dX3_cashOf_0 : decode cX3_cashOf 0 = .ok (.lconst 0, 1) := by decide +kernel
theorem dX3_cashOf_1 : decode cX3_cashOf 1 = .ok (.lstore 5, 2) := by decide +kernel
theorem dX3_cashOf_3 : decode cX3_cashOf 3 = .ok (.iconst 0, 1) := by decide +kernel
theorem dX3_cashOf_4 : decode cX3_cashOf 4 = .ok (.istore 7, 2) := by decide +kernel
theorem dX3_cashOf_6 : decode cX3_cashOf 6 = .ok (.iload 7, 2) := by decide +kernel
theorem dX3_cashOf_8 : decode cX3_cashOf 8 = .ok (.aload_n 0, 1) := by decide +kernel
theorem dX3_cashOf_9 : decode cX3_cashOf 9 = .ok (.getfield 31, 3) := by decide +kernel
theorem dX3_cashOf_12 : decode cX3_cashOf 12 = .ok (.if_icmp .ge 52, 3) := by decide +kernel
theorem dX3_cashOf_15 : decode cX3_cashOf 15 = .ok (.aload_n 0, 1) := by decide +kernel
theorem dX3_cashOf_16 : decode cX3_cashOf 16 = .ok (.iload 7, 2) := by decide +kernel
theorem dX3_cashOf_18 : decode cX3_cashOf 18 = .ok (.invokevirtual 95, 3) := by decide +kernel
theorem dX3_cashOf_21 : decode cX3_cashOf 21 = .ok (.istore 8, 2) := by decide +kernel
theorem dX3_cashOf_23 : decode cX3_cashOf 23 = .ok (.iload 8, 2) := by decide +kernel
theorem dX3_cashOf_25 : decode cX3_cashOf 25 = .ok (.iload_n 2, 1) := by decide +kernel
theorem dX3_cashOf_26 : decode cX3_cashOf 26 = .ok (.if_icmp .lt 32, 3) := by decide +kernel
theorem dX3_cashOf_29 : decode cX3_cashOf 29 = .ok (.iload 8, 2) := by decide +kernel
theorem dX3_cashOf_31 : decode cX3_cashOf 31 = .ok (.iload_n 3, 1) := by decide +kernel
theorem dX3_cashOf_32 : decode cX3_cashOf 32 = .ok (.if_icmp .gt 26, 3) := by decide +kernel
theorem dX3_cashOf_35 : decode cX3_cashOf 35 = .ok (.aload_n 0, 1) := by decide +kernel
theorem dX3_cashOf_36 : decode cX3_cashOf 36 = .ok (.iload 8, 2) := by decide +kernel
theorem dX3_cashOf_38 : decode cX3_cashOf 38 = .ok (.invokevirtual 98, 3) := by decide +kernel
theorem dX3_cashOf_41 : decode cX3_cashOf 41 = .ok (.iload_n 1, 1) := by decide +kernel
theorem dX3_cashOf_42 : decode cX3_cashOf 42 = .ok (.if_icmp .ne 16, 3) := by decide +kernel
theorem dX3_cashOf_45 : decode cX3_cashOf 45 = .ok (.lload 5, 2) := by decide +kernel
theorem dX3_cashOf_47 : decode cX3_cashOf 47 = .ok (.aload_n 0, 1) := by decide +kernel
theorem dX3_cashOf_48 : decode cX3_cashOf 48 = .ok (.iload 7, 2) := by decide +kernel
theorem dX3_cashOf_50 : decode cX3_cashOf 50 = .ok (.aload 4, 2) := by decide +kernel
theorem dX3_cashOf_52 : decode cX3_cashOf 52 = .ok (.invokevirtual 101, 3) := by decide +kernel
theorem dX3_cashOf_55 : decode cX3_cashOf 55 = .ok (.ladd, 1) := by decide +kernel
theorem dX3_cashOf_56 : decode cX3_cashOf 56 = .ok (.lstore 5, 2) := by decide +kernel
theorem dX3_cashOf_58 : decode cX3_cashOf 58 = .ok (.iinc 7 1, 3) := by decide +kernel
theorem dX3_cashOf_61 : decode cX3_cashOf 61 = .ok (.goto (-55), 3) := by decide +kernel
theorem dX3_cashOf_64 : decode cX3_cashOf 64 = .ok (.lload 5, 2) := by decide +kernel
theorem dX3_cashOf_66 : decode cX3_cashOf 66 = .ok (.lreturn, 1) := by decide +kernel
theorem dX3_nextPayDay_0 : decode cX3_nextPayDay 0 = .ok (.iconst 0, 1) := by decide +kernel
theorem dX3_nextPayDay_1 : decode cX3_nextPayDay 1 = .ok (.istore_n 3, 1) := by decide +kernel
theorem dX3_nextPayDay_2 : decode cX3_nextPayDay 2 = .ok (.iload_n 3, 1) := by decide +kernel
theorem dX3_nextPayDay_3 : decode cX3_nextPayDay 3 = .ok (.aload_n 0, 1) := by decide +kernel
theorem dX3_nextPayDay_4 : decode cX3_nextPayDay 4 = .ok (.getfield 31, 3) := by decide +kernel
theorem dX3_nextPayDay_7 : decode cX3_nextPayDay 7 = .ok (.if_icmp .ge 35, 3) := by decide +kernel
theorem dX3_nextPayDay_10 : decode cX3_nextPayDay 10 = .ok (.aload_n 0, 1) := by decide +kernel
theorem dX3_nextPayDay_11 : decode cX3_nextPayDay 11 = .ok (.iload_n 3, 1) := by decide +kernel
theorem dX3_nextPayDay_12 : decode cX3_nextPayDay 12 = .ok (.invokevirtual 95, 3) := by decide +kernel
theorem dX3_nextPayDay_15 : decode cX3_nextPayDay 15 = .ok (.istore 4, 2) := by decide +kernel
theorem dX3_nextPayDay_17 : decode cX3_nextPayDay 17 = .ok (.iload 4, 2) := by decide +kernel
theorem dX3_nextPayDay_19 : decode cX3_nextPayDay 19 = .ok (.iload_n 2, 1) := by decide +kernel
theorem dX3_nextPayDay_20 : decode cX3_nextPayDay 20 = .ok (.if_icmp .lt 16, 3) := by decide +kernel
theorem dX3_nextPayDay_23 : decode cX3_nextPayDay 23 = .ok (.aload_n 0, 1) := by decide +kernel
theorem dX3_nextPayDay_24 : decode cX3_nextPayDay 24 = .ok (.iload 4, 2) := by decide +kernel
theorem dX3_nextPayDay_26 : decode cX3_nextPayDay 26 = .ok (.invokevirtual 98, 3) := by decide +kernel
theorem dX3_nextPayDay_29 : decode cX3_nextPayDay 29 = .ok (.iload_n 1, 1) := by decide +kernel
theorem dX3_nextPayDay_30 : decode cX3_nextPayDay 30 = .ok (.if_icmp .ne 6, 3) := by decide +kernel
theorem dX3_nextPayDay_33 : decode cX3_nextPayDay 33 = .ok (.iload 4, 2) := by decide +kernel
theorem dX3_nextPayDay_35 : decode cX3_nextPayDay 35 = .ok (.ireturn, 1) := by decide +kernel
theorem dX3_nextPayDay_36 : decode cX3_nextPayDay 36 = .ok (.iinc 3 1, 3) := by decide +kernel
theorem dX3_nextPayDay_39 : decode cX3_nextPayDay 39 = .ok (.goto (-37), 3) := by decide +kernel
theorem dX3_nextPayDay_42 : decode cX3_nextPayDay 42 = .ok (.iconst (-1), 1) := by decide +kernel
theorem dX3_nextPayDay_43 : decode cX3_nextPayDay 43 = .ok (.ireturn, 1) := by decide +kernel
theorem dX3_fits_0 : decode cX3_fits 0 = .ok (.aload_n 0, 1) := by decide +kernel
theorem dX3_fits_1 : decode cX3_fits 1 = .ok (.getfield 18, 3) := by decide +kernel
theorem dX3_fits_4 : decode cX3_fits 4 = .ok (.aload_n 1, 1) := by decide +kernel
theorem dX3_fits_5 : decode cX3_fits 5 = .ok (.getfield 18, 3) := by decide +kernel
theorem dX3_fits_8 : decode cX3_fits 8 = .ok (.if_icmp .eq 84, 3) := by decide +kernel
theorem dX3_fits_11 : decode cX3_fits 11 = .ok (.aload_n 0, 1) := by decide +kernel
theorem dX3_fits_12 : decode cX3_fits 12 = .ok (.getfield 22, 3) := by decide +kernel
theorem dX3_fits_15 : decode cX3_fits 15 = .ok (.aload_n 1, 1) := by decide +kernel
theorem dX3_fits_16 : decode cX3_fits 16 = .ok (.getfield 22, 3) := by decide +kernel
theorem dX3_fits_19 : decode cX3_fits 19 = .ok (.if_icmp .ne 73, 3) := by decide +kernel
theorem dX3_fits_22 : decode cX3_fits 22 = .ok (.aload_n 0, 1) := by decide +kernel
theorem dX3_fits_23 : decode cX3_fits 23 = .ok (.getfield 34, 3) := by decide +kernel
theorem dX3_fits_26 : decode cX3_fits 26 = .ok (.aload_n 1, 1) := by decide +kernel
theorem dX3_fits_27 : decode cX3_fits 27 = .ok (.getfield 34, 3) := by decide +kernel
theorem dX3_fits_30 : decode cX3_fits 30 = .ok (.if_icmp .ne 62, 3) := by decide +kernel
theorem dX3_fits_33 : decode cX3_fits 33 = .ok (.aload_n 0, 1) := by decide +kernel
theorem dX3_fits_34 : decode cX3_fits 34 = .ok (.getfield 25, 3) := by decide +kernel
theorem dX3_fits_37 : decode cX3_fits 37 = .ok (.aload_n 1, 1) := by decide +kernel
theorem dX3_fits_38 : decode cX3_fits 38 = .ok (.getfield 25, 3) := by decide +kernel
theorem dX3_fits_41 : decode cX3_fits 41 = .ok (.if_icmp .ne 51, 3) := by decide +kernel
theorem dX3_fits_44 : decode cX3_fits 44 = .ok (.aload_n 0, 1) := by decide +kernel
theorem dX3_fits_45 : decode cX3_fits 45 = .ok (.getfield 28, 3) := by decide +kernel
theorem dX3_fits_48 : decode cX3_fits 48 = .ok (.aload_n 1, 1) := by decide +kernel
theorem dX3_fits_49 : decode cX3_fits 49 = .ok (.getfield 28, 3) := by decide +kernel
theorem dX3_fits_52 : decode cX3_fits 52 = .ok (.if_icmp .ne 40, 3) := by decide +kernel
theorem dX3_fits_55 : decode cX3_fits 55 = .ok (.aload_n 0, 1) := by decide +kernel
theorem dX3_fits_56 : decode cX3_fits 56 = .ok (.getfield 31, 3) := by decide +kernel
theorem dX3_fits_59 : decode cX3_fits 59 = .ok (.aload_n 1, 1) := by decide +kernel
theorem dX3_fits_60 : decode cX3_fits 60 = .ok (.getfield 31, 3) := by decide +kernel
theorem dX3_fits_63 : decode cX3_fits 63 = .ok (.if_icmp .ne 29, 3) := by decide +kernel
theorem dX3_fits_66 : decode cX3_fits 66 = .ok (.aload_n 0, 1) := by decide +kernel
theorem dX3_fits_67 : decode cX3_fits 67 = .ok (.getfield 37, 3) := by decide +kernel
theorem dX3_fits_70 : decode cX3_fits 70 = .ok (.aload_n 1, 1) := by decide +kernel
theorem dX3_fits_71 : decode cX3_fits 71 = .ok (.getfield 37, 3) := by decide +kernel
theorem dX3_fits_74 : decode cX3_fits 74 = .ok (.if_icmp .ne 18, 3) := by decide +kernel
theorem dX3_fits_77 : decode cX3_fits 77 = .ok (.aload_n 0, 1) := by decide +kernel
theorem dX3_fits_78 : decode cX3_fits 78 = .ok (.getfield 40, 3) := by decide +kernel
theorem dX3_fits_81 : decode cX3_fits 81 = .ok (.aload_n 1, 1) := by decide +kernel
theorem dX3_fits_82 : decode cX3_fits 82 = .ok (.getfield 40, 3) := by decide +kernel
theorem dX3_fits_85 : decode cX3_fits 85 = .ok (.if_icmp .ne 7, 3) := by decide +kernel
theorem dX3_fits_88 : decode cX3_fits 88 = .ok (.iconst 1, 1) := by decide +kernel
theorem dX3_fits_89 : decode cX3_fits 89 = .ok (.goto 4, 3) := by decide +kernel
theorem dX3_fits_92 : decode cX3_fits 92 = .ok (.iconst 0, 1) := by decide +kernel
theorem dX3_fits_93 : decode cX3_fits 93 = .ok (.ireturn, 1) := by decide +kernel
theorem dX3_isOfSamePartyFrom_0 : decode cX3_isOfSamePartyFrom 0 = .ok (.iconst 0, 1) := by decide +kernel
theorem dX3_isOfSamePartyFrom_1 : decode cX3_isOfSamePartyFrom 1 = .ok (.istore_n 3, 1) := by decide +kernel
theorem dX3_isOfSamePartyFrom_2 : decode cX3_isOfSamePartyFrom 2 = .ok (.iconst 0, 1) := by decide +kernel
theorem dX3_isOfSamePartyFrom_3 : decode cX3_isOfSamePartyFrom 3 = .ok (.istore 4, 2) := by decide +kernel
theorem dX3_isOfSamePartyFrom_5 : decode cX3_isOfSamePartyFrom 5 = .ok (.iload 4, 2) := by decide +kernel
theorem dX3_isOfSamePartyFrom_7 : decode cX3_isOfSamePartyFrom 7 = .ok (.aload_n 0, 1) := by decide +kernel
theorem dX3_isOfSamePartyFrom_8 : decode cX3_isOfSamePartyFrom 8 = .ok (.getfield 31, 3) := by decide +kernel
theorem dX3_isOfSamePartyFrom_11 : decode cX3_isOfSamePartyFrom 11 = .ok (.if_icmp .ge 46, 3) := by decide +kernel
theorem dX3_isOfSamePartyFrom_14 : decode cX3_isOfSamePartyFrom 14 = .ok (.aload_n 0, 1) := by decide +kernel
theorem dX3_isOfSamePartyFrom_15 : decode cX3_isOfSamePartyFrom 15 = .ok (.iload 4, 2) := by decide +kernel
theorem dX3_isOfSamePartyFrom_17 : decode cX3_isOfSamePartyFrom 17 = .ok (.invokevirtual 63, 3) := by decide +kernel
theorem dX3_isOfSamePartyFrom_20 : decode cX3_isOfSamePartyFrom 20 = .ok (.iload_n 1, 1) := by decide +kernel
theorem dX3_isOfSamePartyFrom_21 : decode cX3_isOfSamePartyFrom 21 = .ok (.if_icmp .lt 30, 3) := by decide +kernel
theorem dX3_isOfSamePartyFrom_24 : decode cX3_isOfSamePartyFrom 24 = .ok (.iconst 1, 1) := by decide +kernel
theorem dX3_isOfSamePartyFrom_25 : decode cX3_isOfSamePartyFrom 25 = .ok (.istore_n 3, 1) := by decide +kernel
theorem dX3_isOfSamePartyFrom_26 : decode cX3_isOfSamePartyFrom 26 = .ok (.aload_n 0, 1) := by decide +kernel
theorem dX3_isOfSamePartyFrom_27 : decode cX3_isOfSamePartyFrom 27 = .ok (.iload 4, 2) := by decide +kernel
theorem dX3_isOfSamePartyFrom_29 : decode cX3_isOfSamePartyFrom 29 = .ok (.invokevirtual 95, 3) := by decide +kernel
theorem dX3_isOfSamePartyFrom_32 : decode cX3_isOfSamePartyFrom 32 = .ok (.istore 5, 2) := by decide +kernel
theorem dX3_isOfSamePartyFrom_34 : decode cX3_isOfSamePartyFrom 34 = .ok (.aload_n 0, 1) := by decide +kernel
theorem dX3_isOfSamePartyFrom_35 : decode cX3_isOfSamePartyFrom 35 = .ok (.iload 5, 2) := by decide +kernel
theorem dX3_isOfSamePartyFrom_37 : decode cX3_isOfSamePartyFrom 37 = .ok (.invokevirtual 98, 3) := by decide +kernel
theorem dX3_isOfSamePartyFrom_40 : decode cX3_isOfSamePartyFrom 40 = .ok (.aload_n 2, 1) := by decide +kernel
theorem dX3_isOfSamePartyFrom_41 : decode cX3_isOfSamePartyFrom 41 = .ok (.iload 5, 2) := by decide +kernel
theorem dX3_isOfSamePartyFrom_43 : decode cX3_isOfSamePartyFrom 43 = .ok (.invokevirtual 98, 3) := by decide +kernel
theorem dX3_isOfSamePartyFrom_46 : decode cX3_isOfSamePartyFrom 46 = .ok (.if_icmp .eq 5, 3) := by decide +kernel
theorem dX3_isOfSamePartyFrom_49 : decode cX3_isOfSamePartyFrom 49 = .ok (.iconst 0, 1) := by decide +kernel
theorem dX3_isOfSamePartyFrom_50 : decode cX3_isOfSamePartyFrom 50 = .ok (.ireturn, 1) := by decide +kernel
theorem dX3_isOfSamePartyFrom_51 : decode cX3_isOfSamePartyFrom 51 = .ok (.iinc 4 1, 3) := by decide +kernel
theorem dX3_isOfSamePartyFrom_54 : decode cX3_isOfSamePartyFrom 54 = .ok (.goto (-49), 3) := by decide +kernel
theorem dX3_isOfSamePartyFrom_57 : decode cX3_isOfSamePartyFrom 57 = .ok (.iload_n 3, 1) := by decide +kernel
theorem dX3_isOfSamePartyFrom_58 : decode cX3_isOfSamePartyFrom 58 = .ok (.ireturn, 1) := by decide +kernel
theorem dX3_daysOf_0 : decode cX3_daysOf 0 = .ok (.aload_n 0, 1) := by decide +kernel
theorem dX3_daysOf_1 : decode cX3_daysOf 1 = .ok (.getfield 37, 3) := by decide +kernel
theorem dX3_daysOf_4 : decode cX3_daysOf 4 = .ok (.ifCond .ne 20, 3) := by decide +kernel
theorem dX3_daysOf_7 : decode cX3_daysOf 7 = .ok (.aload_n 0, 1) := by decide +kernel
theorem dX3_daysOf_8 : decode cX3_daysOf 8 = .ok (.iload_n 1, 1) := by decide +kernel
theorem dX3_daysOf_9 : decode cX3_daysOf 9 = .ok (.iconst 1, 1) := by decide +kernel
theorem dX3_daysOf_10 : decode cX3_daysOf 10 = .ok (.iadd, 1) := by decide +kernel
theorem dX3_daysOf_11 : decode cX3_daysOf 11 = .ok (.invokevirtual 63, 3) := by decide +kernel
theorem dX3_daysOf_14 : decode cX3_daysOf 14 = .ok (.aload_n 0, 1) := by decide +kernel
theorem dX3_daysOf_15 : decode cX3_daysOf 15 = .ok (.iload_n 1, 1) := by decide +kernel
theorem dX3_daysOf_16 : decode cX3_daysOf 16 = .ok (.invokevirtual 63, 3) := by decide +kernel
theorem dX3_daysOf_19 : decode cX3_daysOf 19 = .ok (.isub, 1) := by decide +kernel
theorem dX3_daysOf_20 : decode cX3_daysOf 20 = .ok (.i2l, 1) := by decide +kernel
theorem dX3_daysOf_21 : decode cX3_daysOf 21 = .ok (.goto 8, 3) := by decide +kernel
theorem dX3_daysOf_24 : decode cX3_daysOf 24 = .ok (.aload_n 0, 1) := by decide +kernel
theorem dX3_daysOf_25 : decode cX3_daysOf 25 = .ok (.getfield 28, 3) := by decide +kernel
theorem dX3_daysOf_28 : decode cX3_daysOf 28 = .ok (.i2l, 1) := by decide +kernel
theorem dX3_daysOf_29 : decode cX3_daysOf 29 = .ok (.lreturn, 1) := by decide +kernel
theorem dX3_rateOf_0 : decode cX3_rateOf 0 = .ok (.aload_n 2, 1) := by decide +kernel
theorem dX3_rateOf_1 : decode cX3_rateOf 1 = .ok (.aload_n 0, 1) := by decide +kernel
theorem dX3_rateOf_2 : decode cX3_rateOf 2 = .ok (.iload_n 1, 1) := by decide +kernel
theorem dX3_rateOf_3 : decode cX3_rateOf 3 = .ok (.invokevirtual 63, 3) := by decide +kernel
theorem dX3_rateOf_6 : decode cX3_rateOf 6 = .ok (.iconst 0, 1) := by decide +kernel
theorem dX3_rateOf_7 : decode cX3_rateOf 7 = .ok (.invokevirtual 69, 3) := by decide +kernel
theorem dX3_rateOf_10 : decode cX3_rateOf 10 = .ok (.i2l, 1) := by decide +kernel
theorem dX3_rateOf_11 : decode cX3_rateOf 11 = .ok (.lreturn, 1) := by decide +kernel
theorem dX4_init_0 : decode cX4_init 0 = .ok (.aload_n 0, 1) := by decide +kernel
theorem dX4_init_1 : decode cX4_init 1 = .ok (.invokespecial 1, 3) := by decide +kernel
theorem dX4_init_4 : decode cX4_init 4 = .ok (.aload_n 0, 1) := by decide +kernel
theorem dX4_init_5 : decode cX4_init 5 = .ok (.new 7, 3) := by decide +kernel
theorem dX4_init_8 : decode cX4_init 8 = .ok (.dup, 1) := by decide +kernel
theorem dX4_init_9 : decode cX4_init 9 = .ok (.invokespecial 9, 3) := by decide +kernel
theorem dX4_init_12 : decode cX4_init 12 = .ok (.putfield 10, 3) := by decide +kernel
theorem dX4_init_15 : decode cX4_init 15 = .ok (.aload_n 0, 1) := by decide +kernel
theorem dX4_init_16 : decode cX4_init 16 = .ok (.new 16, 3) := by decide +kernel
theorem dX4_init_19 : decode cX4_init 19 = .ok (.dup, 1) := by decide +kernel
theorem dX4_init_20 : decode cX4_init 20 = .ok (.invokespecial 18, 3) := by decide +kernel
theorem dX4_init_23 : decode cX4_init 23 = .ok (.putfield 19, 3) := by decide +kernel
theorem dX4_init_26 : decode cX4_init 26 = .ok (.aload_n 0, 1) := by decide +kernel
theorem dX4_init_27 : decode cX4_init 27 = .ok (.new 23, 3) := by decide +kernel
theorem dX4_init_30 : decode cX4_init 30 = .ok (.dup, 1) := by decide +kernel
theorem dX4_init_31 : decode cX4_init 31 = .ok (.invokespecial 25, 3) := by decide +kernel
theorem dX4_init_34 : decode cX4_init 34 = .ok (.putfield 26, 3) := by decide +kernel
theorem dX4_init_37 : decode cX4_init 37 = .ok (.return_, 1) := by decide +kernel
theorem dX4_holiday_0 : decode cX4_holiday 0 = .ok (.iload_n 1, 1) := by decide +kernel
theorem dX4_holiday_1 : decode cX4_holiday 1 = .ok (.ifCond .lt 8, 3) := by decide +kernel
theorem dX4_holiday_4 : decode cX4_holiday 4 = .ok (.iload_n 1, 1) := by decide +kernel
theorem dX4_holiday_5 : decode cX4_holiday 5 = .ok (.iconst 2, 1) := by decide +kernel
theorem dX4_holiday_6 : decode cX4_holiday 6 = .ok (.if_icmp .lt 13, 3) := by decide +kernel
theorem dX4_holiday_9 : decode cX4_holiday 9 = .ok (.new 30, 3) := by decide +kernel
theorem dX4_holiday_12 : decode cX4_holiday 12 = .ok (.dup, 1) := by decide +kernel
theorem dX4_holiday_13 : decode cX4_holiday 13 = .ok (.ldc 32, 2) := by decide +kernel
theorem dX4_holiday_15 : decode cX4_holiday 15 = .ok (.invokespecial 34, 3) := by decide +kernel
theorem dX4_holiday_18 : decode cX4_holiday 18 = .ok (.athrow, 1) := by decide +kernel
theorem dX4_holiday_19 : decode cX4_holiday 19 = .ok (.iload_n 2, 1) := by decide +kernel
theorem dX4_holiday_20 : decode cX4_holiday 20 = .ok (.iconst 0, 1) := by decide +kernel
theorem dX4_holiday_21 : decode cX4_holiday 21 = .ok (.sipush 3000, 3) := by decide +kernel
theorem dX4_holiday_24 : decode cX4_holiday 24 = .ok (.invokestatic 37, 3) := by decide +kernel
theorem dX4_holiday_27 : decode cX4_holiday 27 = .ok (.aload_n 0, 1) := by decide +kernel
theorem dX4_holiday_28 : decode cX4_holiday 28 = .ok (.getfield 10, 3) := by decide +kernel
theorem dX4_holiday_31 : decode cX4_holiday 31 = .ok (.iload_n 1, 1) := by decide +kernel
theorem dX4_holiday_32 : decode cX4_holiday 32 = .ok (.invokevirtual 41, 3) := by decide +kernel
theorem dX4_holiday_35 : decode cX4_holiday 35 = .ok (.astore_n 3, 1) := by decide +kernel
theorem dX4_holiday_36 : decode cX4_holiday 36 = .ok (.aload_n 3, 1) := by decide +kernel
theorem dX4_holiday_37 : decode cX4_holiday 37 = .ok (.invokevirtual 45, 3) := by decide +kernel
theorem dX4_holiday_40 : decode cX4_holiday 40 = .ok (.bipush 20, 2) := by decide +kernel
theorem dX4_holiday_42 : decode cX4_holiday 42 = .ok (.if_icmp .ge 11, 3) := by decide +kernel
theorem dX4_holiday_45 : decode cX4_holiday 45 = .ok (.aload_n 3, 1) := by decide +kernel
theorem dX4_holiday_46 : decode cX4_holiday 46 = .ok (.iload_n 2, 1) := by decide +kernel
theorem dX4_holiday_47 : decode cX4_holiday 47 = .ok (.invokevirtual 49, 3) := by decide +kernel
theorem dX4_holiday_50 : decode cX4_holiday 50 = .ok (.ifCond .eq 13, 3) := by decide +kernel
theorem dX4_holiday_53 : decode cX4_holiday 53 = .ok (.new 53, 3) := by decide +kernel
theorem dX4_holiday_56 : decode cX4_holiday 56 = .ok (.dup, 1) := by decide +kernel
theorem dX4_holiday_57 : decode cX4_holiday 57 = .ok (.ldc 55, 2) := by decide +kernel
theorem dX4_holiday_59 : decode cX4_holiday 59 = .ok (.invokespecial 57, 3) := by decide +kernel
theorem dX4_holiday_62 : decode cX4_holiday 62 = .ok (.athrow, 1) := by decide +kernel
theorem dX4_holiday_63 : decode cX4_holiday 63 = .ok (.aload_n 3, 1) := by decide +kernel
theorem dX4_holiday_64 : decode cX4_holiday 64 = .ok (.iload_n 2, 1) := by decide +kernel
theorem dX4_holiday_65 : decode cX4_holiday 65 = .ok (.iload_n 1, 1) := by decide +kernel
theorem dX4_holiday_66 : decode cX4_holiday 66 = .ok (.invokevirtual 58, 3) := by decide +kernel
theorem dX4_holiday_69 : decode cX4_holiday 69 = .ok (.aload_n 0, 1) := by decide +kernel
theorem dX4_holiday_70 : decode cX4_holiday 70 = .ok (.invokevirtual 62, 3) := by decide +kernel
theorem dX4_holiday_73 : decode cX4_holiday 73 = .ok (.aload_n 3, 1) := by decide +kernel
theorem dX4_holiday_74 : decode cX4_holiday 74 = .ok (.invokevirtual 45, 3) := by decide +kernel
theorem dX4_holiday_77 : decode cX4_holiday 77 = .ok (.ireturn, 1) := by decide +kernel
theorem dX4_isOpen_0 : decode cX4_isOpen 0 = .ok (.iload_n 1, 1) := by decide +kernel
theorem dX4_isOpen_1 : decode cX4_isOpen 1 = .ok (.iconst 0, 1) := by decide +kernel
theorem dX4_isOpen_2 : decode cX4_isOpen 2 = .ok (.sipush 3000, 3) := by decide +kernel
theorem dX4_isOpen_5 : decode cX4_isOpen 5 = .ok (.invokestatic 37, 3) := by decide +kernel
theorem dX4_isOpen_8 : decode cX4_isOpen 8 = .ok (.aload_n 0, 1) := by decide +kernel
theorem dX4_isOpen_9 : decode cX4_isOpen 9 = .ok (.getfield 10, 3) := by decide +kernel
theorem dX4_isOpen_12 : decode cX4_isOpen 12 = .ok (.iload_n 1, 1) := by decide +kernel
theorem dX4_isOpen_13 : decode cX4_isOpen 13 = .ok (.invokevirtual 65, 3) := by decide +kernel
theorem dX4_isOpen_16 : decode cX4_isOpen 16 = .ok (.ireturn, 1) := by decide +kernel
theorem dX4_roll_0 : decode cX4_roll 0 = .ok (.iload_n 1, 1) := by decide +kernel
theorem dX4_roll_1 : decode cX4_roll 1 = .ok (.iconst 0, 1) := by decide +kernel
theorem dX4_roll_2 : decode cX4_roll 2 = .ok (.sipush 3000, 3) := by decide +kernel
theorem dX4_roll_5 : decode cX4_roll 5 = .ok (.invokestatic 37, 3) := by decide +kernel
theorem dX4_roll_8 : decode cX4_roll 8 = .ok (.aload_n 0, 1) := by decide +kernel
theorem dX4_roll_9 : decode cX4_roll 9 = .ok (.getfield 10, 3) := by decide +kernel
theorem dX4_roll_12 : decode cX4_roll 12 = .ok (.iload_n 1, 1) := by decide +kernel
theorem dX4_roll_13 : decode cX4_roll 13 = .ok (.invokevirtual 68, 3) := by decide +kernel
theorem dX4_roll_16 : decode cX4_roll 16 = .ok (.ireturn, 1) := by decide +kernel
theorem dX4_fix_0 : decode cX4_fix 0 = .ok (.iload_n 1, 1) := by decide +kernel
theorem dX4_fix_1 : decode cX4_fix 1 = .ok (.iconst 0, 1) := by decide +kernel
theorem dX4_fix_2 : decode cX4_fix 2 = .ok (.sipush 3000, 3) := by decide +kernel
theorem dX4_fix_5 : decode cX4_fix 5 = .ok (.invokestatic 37, 3) := by decide +kernel
theorem dX4_fix_8 : decode cX4_fix 8 = .ok (.iload_n 2, 1) := by decide +kernel
theorem dX4_fix_9 : decode cX4_fix 9 = .ok (.sipush (-500), 3) := by decide +kernel
theorem dX4_fix_12 : decode cX4_fix 12 = .ok (.sipush 2000, 3) := by decide +kernel
theorem dX4_fix_15 : decode cX4_fix 15 = .ok (.invokestatic 37, 3) := by decide +kernel
theorem dX4_fix_18 : decode cX4_fix 18 = .ok (.aload_n 0, 1) := by decide +kernel
theorem dX4_fix_19 : decode cX4_fix 19 = .ok (.getfield 19, 3) := by decide +kernel
theorem dX4_fix_22 : decode cX4_fix 22 = .ok (.invokevirtual 45, 3) := by decide +kernel
theorem dX4_fix_25 : decode cX4_fix 25 = .ok (.bipush 60, 2) := by decide +kernel
theorem dX4_fix_27 : decode cX4_fix 27 = .ok (.if_icmp .lt 24, 3) := by decide +kernel
theorem dX4_fix_30 : decode cX4_fix 30 = .ok (.aload_n 0, 1) := by decide +kernel
theorem dX4_fix_31 : decode cX4_fix 31 = .ok (.getfield 19, 3) := by decide +kernel
theorem dX4_fix_34 : decode cX4_fix 34 = .ok (.iload_n 1, 1) := by decide +kernel
theorem dX4_fix_35 : decode cX4_fix 35 = .ok (.invokevirtual 49, 3) := by decide +kernel
theorem dX4_fix_38 : decode cX4_fix 38 = .ok (.ifCond .ne 13, 3) := by decide +kernel
theorem dX4_fix_41 : decode cX4_fix 41 = .ok (.new 53, 3) := by decide +kernel
theorem dX4_fix_44 : decode cX4_fix 44 = .ok (.dup, 1) := by decide +kernel
theorem dX4_fix_45 : decode cX4_fix 45 = .ok (.ldc 72, 2) := by decide +kernel
theorem dX4_fix_47 : decode cX4_fix 47 = .ok (.invokespecial 57, 3) := by decide +kernel
theorem dX4_fix_50 : decode cX4_fix 50 = .ok (.athrow, 1) := by decide +kernel
theorem dX4_fix_51 : decode cX4_fix 51 = .ok (.aload_n 0, 1) := by decide +kernel
theorem dX4_fix_52 : decode cX4_fix 52 = .ok (.getfield 19, 3) := by decide +kernel
theorem dX4_fix_55 : decode cX4_fix 55 = .ok (.iload_n 1, 1) := by decide +kernel
theorem dX4_fix_56 : decode cX4_fix 56 = .ok (.iload_n 2, 1) := by decide +kernel
theorem dX4_fix_57 : decode cX4_fix 57 = .ok (.invokevirtual 74, 3) := by decide +kernel
theorem dX4_fix_60 : decode cX4_fix 60 = .ok (.aload_n 0, 1) := by decide +kernel
theorem dX4_fix_61 : decode cX4_fix 61 = .ok (.getfield 19, 3) := by decide +kernel
theorem dX4_fix_64 : decode cX4_fix 64 = .ok (.invokevirtual 45, 3) := by decide +kernel
theorem dX4_fix_67 : decode cX4_fix 67 = .ok (.ireturn, 1) := by decide +kernel
theorem dX4_trade_0 : decode cX4_trade 0 = .ok (.iload_n 1, 1) := by decide +kernel
theorem dX4_trade_1 : decode cX4_trade 1 = .ok (.invokestatic 81, 3) := by decide +kernel
theorem dX4_trade_4 : decode cX4_trade 4 = .ok (.iload_n 2, 1) := by decide +kernel
theorem dX4_trade_5 : decode cX4_trade 5 = .ok (.iconst 1, 1) := by decide +kernel
theorem dX4_trade_6 : decode cX4_trade 6 = .ok (.sipush 1000, 3) := by decide +kernel
theorem dX4_trade_9 : decode cX4_trade 9 = .ok (.invokestatic 37, 3) := by decide +kernel
theorem dX4_trade_12 : decode cX4_trade 12 = .ok (.iload 4, 2) := by decide +kernel
theorem dX4_trade_14 : decode cX4_trade 14 = .ok (.sipush (-500), 3) := by decide +kernel
theorem dX4_trade_17 : decode cX4_trade 17 = .ok (.sipush 2000, 3) := by decide +kernel
theorem dX4_trade_20 : decode cX4_trade 20 = .ok (.invokestatic 37, 3) := by decide +kernel
theorem dX4_trade_23 : decode cX4_trade 23 = .ok (.iload 5, 2) := by decide +kernel
theorem dX4_trade_25 : decode cX4_trade 25 = .ok (.iconst 0, 1) := by decide +kernel
theorem dX4_trade_26 : decode cX4_trade 26 = .ok (.sipush 1000, 3) := by decide +kernel
theorem dX4_trade_29 : decode cX4_trade 29 = .ok (.invokestatic 37, 3) := by decide +kernel
theorem dX4_trade_32 : decode cX4_trade 32 = .ok (.iload 6, 2) := by decide +kernel
theorem dX4_trade_34 : decode cX4_trade 34 = .ok (.iconst 5, 1) := by decide +kernel
theorem dX4_trade_35 : decode cX4_trade 35 = .ok (.sipush 180, 3) := by decide +kernel
theorem dX4_trade_38 : decode cX4_trade 38 = .ok (.invokestatic 37, 3) := by decide +kernel
theorem dX4_trade_41 : decode cX4_trade 41 = .ok (.iload 7, 2) := by decide +kernel
theorem dX4_trade_43 : decode cX4_trade 43 = .ok (.iconst 1, 1) := by decide +kernel
theorem dX4_trade_44 : decode cX4_trade 44 = .ok (.bipush 10, 2) := by decide +kernel
theorem dX4_trade_46 : decode cX4_trade 46 = .ok (.invokestatic 37, 3) := by decide +kernel
theorem dX4_trade_49 : decode cX4_trade 49 = .ok (.aload_n 0, 1) := by decide +kernel
theorem dX4_trade_50 : decode cX4_trade 50 = .ok (.getfield 26, 3) := by decide +kernel
theorem dX4_trade_53 : decode cX4_trade 53 = .ok (.invokevirtual 85, 3) := by decide +kernel
theorem dX4_trade_56 : decode cX4_trade 56 = .ok (.bipush 10, 2) := by decide +kernel
theorem dX4_trade_58 : decode cX4_trade 58 = .ok (.if_icmp .lt 13, 3) := by decide +kernel
theorem dX4_trade_61 : decode cX4_trade 61 = .ok (.new 53, 3) := by decide +kernel
theorem dX4_trade_64 : decode cX4_trade 64 = .ok (.dup, 1) := by decide +kernel
theorem dX4_trade_65 : decode cX4_trade 65 = .ok (.ldc 88, 2) := by decide +kernel
theorem dX4_trade_67 : decode cX4_trade 67 = .ok (.invokespecial 57, 3) := by decide +kernel
theorem dX4_trade_70 : decode cX4_trade 70 = .ok (.athrow, 1) := by decide +kernel
theorem dX4_trade_71 : decode cX4_trade 71 = .ok (.new 90, 3) := by decide +kernel
theorem dX4_trade_74 : decode cX4_trade 74 = .ok (.dup, 1) := by decide +kernel
theorem dX4_trade_75 : decode cX4_trade 75 = .ok (.iload_n 1, 1) := by decide +kernel
theorem dX4_trade_76 : decode cX4_trade 76 = .ok (.iload_n 2, 1) := by decide +kernel
theorem dX4_trade_77 : decode cX4_trade 77 = .ok (.iload_n 3, 1) := by decide +kernel
theorem dX4_trade_78 : decode cX4_trade 78 = .ok (.iload 4, 2) := by decide +kernel
theorem dX4_trade_80 : decode cX4_trade 80 = .ok (.iload 5, 2) := by decide +kernel
theorem dX4_trade_82 : decode cX4_trade 82 = .ok (.iload 6, 2) := by decide +kernel
theorem dX4_trade_84 : decode cX4_trade 84 = .ok (.iload 7, 2) := by decide +kernel
theorem dX4_trade_86 : decode cX4_trade 86 = .ok (.invokespecial 92, 3) := by decide +kernel
theorem dX4_trade_89 : decode cX4_trade 89 = .ok (.astore 8, 2) := by decide +kernel
theorem dX4_trade_91 : decode cX4_trade 91 = .ok (.aload 8, 2) := by decide +kernel
theorem dX4_trade_93 : decode cX4_trade 93 = .ok (.aload_n 0, 1) := by decide +kernel
theorem dX4_trade_94 : decode cX4_trade 94 = .ok (.getfield 10, 3) := by decide +kernel
theorem dX4_trade_97 : decode cX4_trade 97 = .ok (.invokevirtual 95, 3) := by decide +kernel
theorem dX4_trade_100 : decode cX4_trade 100 = .ok (.aload_n 0, 1) := by decide +kernel
theorem dX4_trade_101 : decode cX4_trade 101 = .ok (.getfield 26, 3) := by decide +kernel
theorem dX4_trade_104 : decode cX4_trade 104 = .ok (.aload 8, 2) := by decide +kernel
theorem dX4_trade_106 : decode cX4_trade 106 = .ok (.invokevirtual 99, 3) := by decide +kernel
theorem dX4_trade_109 : decode cX4_trade 109 = .ok (.pop, 1) := by decide +kernel
theorem dX4_trade_110 : decode cX4_trade 110 = .ok (.aload_n 0, 1) := by decide +kernel
theorem dX4_trade_111 : decode cX4_trade 111 = .ok (.getfield 26, 3) := by decide +kernel
theorem dX4_trade_114 : decode cX4_trade 114 = .ok (.invokevirtual 85, 3) := by decide +kernel
theorem dX4_trade_117 : decode cX4_trade 117 = .ok (.iconst 1, 1) := by decide +kernel
theorem dX4_trade_118 : decode cX4_trade 118 = .ok (.isub, 1) := by decide +kernel
theorem dX4_trade_119 : decode cX4_trade 119 = .ok (.ireturn, 1) := by decide +kernel
theorem dX4_breakPart_0 : decode cX4_breakPart 0 = .ok (.aload_n 0, 1) := by decide +kernel
theorem dX4_breakPart_1 : decode cX4_breakPart 1 = .ok (.iload_n 1, 1) := by decide +kernel
theorem dX4_breakPart_2 : decode cX4_breakPart 2 = .ok (.invokevirtual 102, 3) := by decide +kernel
theorem dX4_breakPart_5 : decode cX4_breakPart 5 = .ok (.astore 4, 2) := by decide +kernel
theorem dX4_breakPart_7 : decode cX4_breakPart 7 = .ok (.iload_n 2, 1) := by decide +kernel
theorem dX4_breakPart_8 : decode cX4_breakPart 8 = .ok (.iconst 0, 1) := by decide +kernel
theorem dX4_breakPart_9 : decode cX4_breakPart 9 = .ok (.sipush 3000, 3) := by decide +kernel
theorem dX4_breakPart_12 : decode cX4_breakPart 12 = .ok (.invokestatic 37, 3) := by decide +kernel
theorem dX4_breakPart_15 : decode cX4_breakPart 15 = .ok (.iload_n 3, 1) := by decide +kernel
theorem dX4_breakPart_16 : decode cX4_breakPart 16 = .ok (.iconst 1, 1) := by decide +kernel
theorem dX4_breakPart_17 : decode cX4_breakPart 17 = .ok (.sipush 1000, 3) := by decide +kernel
theorem dX4_breakPart_20 : decode cX4_breakPart 20 = .ok (.invokestatic 37, 3) := by decide +kernel
theorem dX4_breakPart_23 : decode cX4_breakPart 23 = .ok (.aload 4, 2) := by decide +kernel
theorem dX4_breakPart_25 : decode cX4_breakPart 25 = .ok (.invokevirtual 121, 3) := by decide +kernel
theorem dX4_breakPart_28 : decode cX4_breakPart 28 = .ok (.iload_n 3, 1) := by decide +kernel
theorem dX4_breakPart_29 : decode cX4_breakPart 29 = .ok (.if_icmp .ge 13, 3) := by decide +kernel
theorem dX4_breakPart_32 : decode cX4_breakPart 32 = .ok (.new 53, 3) := by decide +kernel
theorem dX4_breakPart_35 : decode cX4_breakPart 35 = .ok (.dup, 1) := by decide +kernel
theorem dX4_breakPart_36 : decode cX4_breakPart 36 = .ok (.ldc 124, 2) := by decide +kernel
theorem dX4_breakPart_38 : decode cX4_breakPart 38 = .ok (.invokespecial 57, 3) := by decide +kernel
theorem dX4_breakPart_41 : decode cX4_breakPart 41 = .ok (.athrow, 1) := by decide +kernel
theorem dX4_breakPart_42 : decode cX4_breakPart 42 = .ok (.aload 4, 2) := by decide +kernel
theorem dX4_breakPart_44 : decode cX4_breakPart 44 = .ok (.getfield 106, 3) := by decide +kernel
theorem dX4_breakPart_47 : decode cX4_breakPart 47 = .ok (.iload_n 2, 1) := by decide +kernel
theorem dX4_breakPart_48 : decode cX4_breakPart 48 = .ok (.iload_n 3, 1) := by decide +kernel
theorem dX4_breakPart_49 : decode cX4_breakPart 49 = .ok (.invokevirtual 58, 3) := by decide +kernel
theorem dX4_breakPart_52 : decode cX4_breakPart 52 = .ok (.aload 4, 2) := by decide +kernel
theorem dX4_breakPart_54 : decode cX4_breakPart 54 = .ok (.getfield 106, 3) := by decide +kernel
theorem dX4_breakPart_57 : decode cX4_breakPart 57 = .ok (.invokevirtual 45, 3) := by decide +kernel
theorem dX4_breakPart_60 : decode cX4_breakPart 60 = .ok (.ireturn, 1) := by decide +kernel
theorem dX4_handOver_0 : decode cX4_handOver 0 = .ok (.aload_n 0, 1) := by decide +kernel
theorem dX4_handOver_1 : decode cX4_handOver 1 = .ok (.iload_n 1, 1) := by decide +kernel
theorem dX4_handOver_2 : decode cX4_handOver 2 = .ok (.invokevirtual 102, 3) := by decide +kernel
theorem dX4_handOver_5 : decode cX4_handOver 5 = .ok (.astore 4, 2) := by decide +kernel
theorem dX4_handOver_7 : decode cX4_handOver 7 = .ok (.iload_n 3, 1) := by decide +kernel
theorem dX4_handOver_8 : decode cX4_handOver 8 = .ok (.invokestatic 81, 3) := by decide +kernel
theorem dX4_handOver_11 : decode cX4_handOver 11 = .ok (.iload_n 2, 1) := by decide +kernel
theorem dX4_handOver_12 : decode cX4_handOver 12 = .ok (.iconst 0, 1) := by decide +kernel
theorem dX4_handOver_13 : decode cX4_handOver 13 = .ok (.sipush 3000, 3) := by decide +kernel
theorem dX4_handOver_16 : decode cX4_handOver 16 = .ok (.invokestatic 37, 3) := by decide +kernel
theorem dX4_handOver_19 : decode cX4_handOver 19 = .ok (.aload 4, 2) := by decide +kernel
theorem dX4_handOver_21 : decode cX4_handOver 21 = .ok (.getfield 126, 3) := by decide +kernel
theorem dX4_handOver_24 : decode cX4_handOver 24 = .ok (.invokevirtual 45, 3) := by decide +kernel
theorem dX4_handOver_27 : decode cX4_handOver 27 = .ok (.bipush 10, 2) := by decide +kernel
theorem dX4_handOver_29 : decode cX4_handOver 29 = .ok (.if_icmp .lt 13, 3) := by decide +kernel
theorem dX4_handOver_32 : decode cX4_handOver 32 = .ok (.new 53, 3) := by decide +kernel
theorem dX4_handOver_35 : decode cX4_handOver 35 = .ok (.dup, 1) := by decide +kernel
theorem dX4_handOver_36 : decode cX4_handOver 36 = .ok (.ldc 129, 2) := by decide +kernel
theorem dX4_handOver_38 : decode cX4_handOver 38 = .ok (.invokespecial 57, 3) := by decide +kernel
theorem dX4_handOver_41 : decode cX4_handOver 41 = .ok (.athrow, 1) := by decide +kernel
theorem dX4_handOver_42 : decode cX4_handOver 42 = .ok (.aload 4, 2) := by decide +kernel
theorem dX4_handOver_44 : decode cX4_handOver 44 = .ok (.iload_n 2, 1) := by decide +kernel
theorem dX4_handOver_45 : decode cX4_handOver 45 = .ok (.invokevirtual 131, 3) := by decide +kernel
theorem dX4_handOver_48 : decode cX4_handOver 48 = .ok (.istore 5, 2) := by decide +kernel
theorem dX4_handOver_50 : decode cX4_handOver 50 = .ok (.aload 4, 2) := by decide +kernel
theorem dX4_handOver_52 : decode cX4_handOver 52 = .ok (.getfield 126, 3) := by decide +kernel
theorem dX4_handOver_55 : decode cX4_handOver 55 = .ok (.iload_n 2, 1) := by decide +kernel
theorem dX4_handOver_56 : decode cX4_handOver 56 = .ok (.iload_n 3, 1) := by decide +kernel
theorem dX4_handOver_57 : decode cX4_handOver 57 = .ok (.invokevirtual 58, 3) := by decide +kernel
theorem dX4_handOver_60 : decode cX4_handOver 60 = .ok (.iload 5, 2) := by decide +kernel
theorem dX4_handOver_62 : decode cX4_handOver 62 = .ok (.ireturn, 1) := by decide +kernel
theorem dX4_press_0 : decode cX4_press 0 = .ok (.iload_n 1, 1) := by decide +kernel
theorem dX4_press_1 : decode cX4_press 1 = .ok (.iconst 0, 1) := by decide +kernel
theorem dX4_press_2 : decode cX4_press 2 = .ok (.sipush 3000, 3) := by decide +kernel
theorem dX4_press_5 : decode cX4_press 5 = .ok (.invokestatic 37, 3) := by decide +kernel
theorem dX4_press_8 : decode cX4_press 8 = .ok (.iconst 0, 1) := by decide +kernel
theorem dX4_press_9 : decode cX4_press 9 = .ok (.istore_n 2, 1) := by decide +kernel
theorem dX4_press_10 : decode cX4_press 10 = .ok (.iconst 0, 1) := by decide +kernel
theorem dX4_press_11 : decode cX4_press 11 = .ok (.istore_n 3, 1) := by decide +kernel
theorem dX4_press_12 : decode cX4_press 12 = .ok (.iload_n 3, 1) := by decide +kernel
theorem dX4_press_13 : decode cX4_press 13 = .ok (.aload_n 0, 1) := by decide +kernel
theorem dX4_press_14 : decode cX4_press 14 = .ok (.getfield 26, 3) := by decide +kernel
theorem dX4_press_17 : decode cX4_press 17 = .ok (.invokevirtual 85, 3) := by decide +kernel
theorem dX4_press_20 : decode cX4_press 20 = .ok (.if_icmp .ge 62, 3) := by decide +kernel
theorem dX4_press_23 : decode cX4_press 23 = .ok (.iload_n 3, 1) := by decide +kernel
theorem dX4_press_24 : decode cX4_press 24 = .ok (.iconst 1, 1) := by decide +kernel
theorem dX4_press_25 : decode cX4_press 25 = .ok (.iadd, 1) := by decide +kernel
theorem dX4_press_26 : decode cX4_press 26 = .ok (.istore 4, 2) := by decide +kernel
theorem dX4_press_28 : decode cX4_press 28 = .ok (.iload 4, 2) := by decide +kernel
theorem dX4_press_30 : decode cX4_press 30 = .ok (.aload_n 0, 1) := by decide +kernel
theorem dX4_press_31 : decode cX4_press 31 = .ok (.getfield 26, 3) := by decide +kernel
theorem dX4_press_34 : decode cX4_press 34 = .ok (.invokevirtual 85, 3) := by decide +kernel
theorem dX4_press_37 : decode cX4_press 37 = .ok (.if_icmp .ge 39, 3) := by decide +kernel
theorem dX4_press_40 : decode cX4_press 40 = .ok (.iload_n 2, 1) := by decide +kernel
theorem dX4_press_41 : decode cX4_press 41 = .ok (.aload_n 0, 1) := by decide +kernel
theorem dX4_press_42 : decode cX4_press 42 = .ok (.getfield 26, 3) := by decide +kernel
theorem dX4_press_45 : decode cX4_press 45 = .ok (.iload_n 3, 1) := by decide +kernel
theorem dX4_press_46 : decode cX4_press 46 = .ok (.invokevirtual 134, 3) := by decide +kernel
theorem dX4_press_49 : decode cX4_press 49 = .ok (.checkcast 90, 3) := by decide +kernel
theorem dX4_press_52 : decode cX4_press 52 = .ok (.aload_n 0, 1) := by decide +kernel
theorem dX4_press_53 : decode cX4_press 53 = .ok (.getfield 26, 3) := by decide +kernel
theorem dX4_press_56 : decode cX4_press 56 = .ok (.iload 4, 2) := by decide +kernel
theorem dX4_press_58 : decode cX4_press 58 = .ok (.invokevirtual 134, 3) := by decide +kernel
theorem dX4_press_61 : decode cX4_press 61 = .ok (.checkcast 90, 3) := by decide +kernel
theorem dX4_press_64 : decode cX4_press 64 = .ok (.iload_n 1, 1) := by decide +kernel
theorem dX4_press_65 : decode cX4_press 65 = .ok (.invokestatic 138, 3) := by decide +kernel
theorem dX4_press_68 : decode cX4_press 68 = .ok (.iadd, 1) := by decide +kernel
theorem dX4_press_69 : decode cX4_press 69 = .ok (.istore_n 2, 1) := by decide +kernel
theorem dX4_press_70 : decode cX4_press 70 = .ok (.iinc 4 1, 3) := by decide +kernel
theorem dX4_press_73 : decode cX4_press 73 = .ok (.goto (-45), 3) := by decide +kernel
theorem dX4_press_76 : decode cX4_press 76 = .ok (.iinc 3 1, 3) := by decide +kernel
theorem dX4_press_79 : decode cX4_press 79 = .ok (.goto (-67), 3) := by decide +kernel
theorem dX4_press_82 : decode cX4_press 82 = .ok (.iload_n 2, 1) := by decide +kernel
theorem dX4_press_83 : decode cX4_press 83 = .ok (.ireturn, 1) := by decide +kernel
theorem dX4_trades_0 : decode cX4_trades 0 = .ok (.aload_n 0, 1) := by decide +kernel
theorem dX4_trades_1 : decode cX4_trades 1 = .ok (.getfield 26, 3) := by decide +kernel
theorem dX4_trades_4 : decode cX4_trades 4 = .ok (.invokevirtual 85, 3) := by decide +kernel
theorem dX4_trades_7 : decode cX4_trades 7 = .ok (.ireturn, 1) := by decide +kernel
theorem dX4_start_0 : decode cX4_start 0 = .ok (.aload_n 0, 1) := by decide +kernel
theorem dX4_start_1 : decode cX4_start 1 = .ok (.iload_n 1, 1) := by decide +kernel
theorem dX4_start_2 : decode cX4_start 2 = .ok (.iload_n 2, 1) := by decide +kernel
theorem dX4_start_3 : decode cX4_start 3 = .ok (.invokevirtual 142, 3) := by decide +kernel
theorem dX4_start_6 : decode cX4_start 6 = .ok (.iload_n 2, 1) := by decide +kernel
theorem dX4_start_7 : decode cX4_start 7 = .ok (.invokevirtual 146, 3) := by decide +kernel
theorem dX4_start_10 : decode cX4_start 10 = .ok (.ireturn, 1) := by decide +kernel
theorem dX4_end_0 : decode cX4_end 0 = .ok (.aload_n 0, 1) := by decide +kernel
theorem dX4_end_1 : decode cX4_end 1 = .ok (.iload_n 1, 1) := by decide +kernel
theorem dX4_end_2 : decode cX4_end 2 = .ok (.iload_n 2, 1) := by decide +kernel
theorem dX4_end_3 : decode cX4_end 3 = .ok (.invokevirtual 142, 3) := by decide +kernel
theorem dX4_end_6 : decode cX4_end 6 = .ok (.iload_n 2, 1) := by decide +kernel
theorem dX4_end_7 : decode cX4_end 7 = .ok (.invokevirtual 149, 3) := by decide +kernel
theorem dX4_end_10 : decode cX4_end 10 = .ok (.ireturn, 1) := by decide +kernel
theorem dX4_lots_0 : decode cX4_lots 0 = .ok (.aload_n 0, 1) := by decide +kernel
theorem dX4_lots_1 : decode cX4_lots 1 = .ok (.iload_n 1, 1) := by decide +kernel
theorem dX4_lots_2 : decode cX4_lots 2 = .ok (.iload_n 2, 1) := by decide +kernel
theorem dX4_lots_3 : decode cX4_lots 3 = .ok (.invokevirtual 142, 3) := by decide +kernel
theorem dX4_lots_6 : decode cX4_lots 6 = .ok (.iload_n 2, 1) := by decide +kernel
theorem dX4_lots_7 : decode cX4_lots 7 = .ok (.invokevirtual 152, 3) := by decide +kernel
theorem dX4_lots_10 : decode cX4_lots 10 = .ok (.ireturn, 1) := by decide +kernel
theorem dX4_flow_0 : decode cX4_flow 0 = .ok (.aload_n 0, 1) := by decide +kernel
theorem dX4_flow_1 : decode cX4_flow 1 = .ok (.iload_n 1, 1) := by decide +kernel
theorem dX4_flow_2 : decode cX4_flow 2 = .ok (.iload_n 2, 1) := by decide +kernel
theorem dX4_flow_3 : decode cX4_flow 3 = .ok (.invokevirtual 142, 3) := by decide +kernel
theorem dX4_flow_6 : decode cX4_flow 6 = .ok (.iload_n 2, 1) := by decide +kernel
theorem dX4_flow_7 : decode cX4_flow 7 = .ok (.aload_n 0, 1) := by decide +kernel
theorem dX4_flow_8 : decode cX4_flow 8 = .ok (.getfield 19, 3) := by decide +kernel
theorem dX4_flow_11 : decode cX4_flow 11 = .ok (.invokevirtual 159, 3) := by decide +kernel
theorem dX4_flow_14 : decode cX4_flow 14 = .ok (.lreturn, 1) := by decide +kernel
theorem dX4_partyOn_0 : decode cX4_partyOn 0 = .ok (.aload_n 0, 1) := by decide +kernel
theorem dX4_partyOn_1 : decode cX4_partyOn 1 = .ok (.iload_n 1, 1) := by decide +kernel
theorem dX4_partyOn_2 : decode cX4_partyOn 2 = .ok (.invokevirtual 102, 3) := by decide +kernel
theorem dX4_partyOn_5 : decode cX4_partyOn 5 = .ok (.astore_n 3, 1) := by decide +kernel
theorem dX4_partyOn_6 : decode cX4_partyOn 6 = .ok (.iload_n 2, 1) := by decide +kernel
theorem dX4_partyOn_7 : decode cX4_partyOn 7 = .ok (.iconst 0, 1) := by decide +kernel
theorem dX4_partyOn_8 : decode cX4_partyOn 8 = .ok (.sipush 3000, 3) := by decide +kernel
theorem dX4_partyOn_11 : decode cX4_partyOn 11 = .ok (.invokestatic 37, 3) := by decide +kernel
theorem dX4_partyOn_14 : decode cX4_partyOn 14 = .ok (.aload_n 3, 1) := by decide +kernel
theorem dX4_partyOn_15 : decode cX4_partyOn 15 = .ok (.iload_n 2, 1) := by decide +kernel
theorem dX4_partyOn_16 : decode cX4_partyOn 16 = .ok (.invokevirtual 131, 3) := by decide +kernel
theorem dX4_partyOn_19 : decode cX4_partyOn 19 = .ok (.ireturn, 1) := by decide +kernel
theorem dX4_cashOfDays_0 : decode cX4_cashOfDays 0 = .ok (.iload_n 1, 1) := by decide +kernel
theorem dX4_cashOfDays_1 : decode cX4_cashOfDays 1 = .ok (.invokestatic 81, 3) := by decide +kernel
theorem dX4_cashOfDays_4 : decode cX4_cashOfDays 4 = .ok (.iload_n 2, 1) := by decide +kernel
theorem dX4_cashOfDays_5 : decode cX4_cashOfDays 5 = .ok (.iload_n 3, 1) := by decide +kernel
theorem dX4_cashOfDays_6 : decode cX4_cashOfDays 6 = .ok (.invokestatic 166, 3) := by decide +kernel
theorem dX4_cashOfDays_9 : decode cX4_cashOfDays 9 = .ok (.lconst 0, 1) := by decide +kernel
theorem dX4_cashOfDays_10 : decode cX4_cashOfDays 10 = .ok (.lstore 4, 2) := by decide +kernel
theorem dX4_cashOfDays_12 : decode cX4_cashOfDays 12 = .ok (.iload_n 2, 1) := by decide +kernel
theorem dX4_cashOfDays_13 : decode cX4_cashOfDays 13 = .ok (.istore 6, 2) := by decide +kernel
theorem dX4_cashOfDays_15 : decode cX4_cashOfDays 15 = .ok (.iload 6, 2) := by decide +kernel
theorem dX4_cashOfDays_17 : decode cX4_cashOfDays 17 = .ok (.iload_n 3, 1) := by decide +kernel
theorem dX4_cashOfDays_18 : decode cX4_cashOfDays 18 = .ok (.if_icmp .gt 21, 3) := by decide +kernel
theorem dX4_cashOfDays_21 : decode cX4_cashOfDays 21 = .ok (.lload 4, 2) := by decide +kernel
theorem dX4_cashOfDays_23 : decode cX4_cashOfDays 23 = .ok (.aload_n 0, 1) := by decide +kernel
theorem dX4_cashOfDays_24 : decode cX4_cashOfDays 24 = .ok (.iload_n 1, 1) := by decide +kernel
theorem dX4_cashOfDays_25 : decode cX4_cashOfDays 25 = .ok (.iload 6, 2) := by decide +kernel
theorem dX4_cashOfDays_27 : decode cX4_cashOfDays 27 = .ok (.invokevirtual 162, 3) := by decide +kernel
theorem dX4_cashOfDays_30 : decode cX4_cashOfDays 30 = .ok (.ladd, 1) := by decide +kernel
theorem dX4_cashOfDays_31 : decode cX4_cashOfDays 31 = .ok (.lstore 4, 2) := by decide +kernel
theorem dX4_cashOfDays_33 : decode cX4_cashOfDays 33 = .ok (.iinc 6 1, 3) := by decide +kernel
theorem dX4_cashOfDays_36 : decode cX4_cashOfDays 36 = .ok (.goto (-21), 3) := by decide +kernel
theorem dX4_cashOfDays_39 : decode cX4_cashOfDays 39 = .ok (.lload 4, 2) := by decide +kernel
theorem dX4_cashOfDays_41 : decode cX4_cashOfDays 41 = .ok (.lreturn, 1) := by decide +kernel
theorem dX4_cashByTrades_0 : decode cX4_cashByTrades 0 = .ok (.iload_n 1, 1) := by decide +kernel
theorem dX4_cashByTrades_1 : decode cX4_cashByTrades 1 = .ok (.invokestatic 81, 3) := by decide +kernel
theorem dX4_cashByTrades_4 : decode cX4_cashByTrades 4 = .ok (.iload_n 2, 1) := by decide +kernel
theorem dX4_cashByTrades_5 : decode cX4_cashByTrades 5 = .ok (.iload_n 3, 1) := by decide +kernel
theorem dX4_cashByTrades_6 : decode cX4_cashByTrades 6 = .ok (.invokestatic 166, 3) := by decide +kernel
theorem dX4_cashByTrades_9 : decode cX4_cashByTrades 9 = .ok (.lconst 0, 1) := by decide +kernel
theorem dX4_cashByTrades_10 : decode cX4_cashByTrades 10 = .ok (.lstore 4, 2) := by decide +kernel
theorem dX4_cashByTrades_12 : decode cX4_cashByTrades 12 = .ok (.iconst 0, 1) := by decide +kernel
theorem dX4_cashByTrades_13 : decode cX4_cashByTrades 13 = .ok (.istore 6, 2) := by decide +kernel
theorem dX4_cashByTrades_15 : decode cX4_cashByTrades 15 = .ok (.iload 6, 2) := by decide +kernel
theorem dX4_cashByTrades_17 : decode cX4_cashByTrades 17 = .ok (.aload_n 0, 1) := by decide +kernel
theorem dX4_cashByTrades_18 : decode cX4_cashByTrades 18 = .ok (.getfield 26, 3) := by decide +kernel
theorem dX4_cashByTrades_21 : decode cX4_cashByTrades 21 = .ok (.invokevirtual 85, 3) := by decide +kernel
theorem dX4_cashByTrades_24 : decode cX4_cashByTrades 24 = .ok (.if_icmp .ge 36, 3) := by decide +kernel
theorem dX4_cashByTrades_27 : decode cX4_cashByTrades 27 = .ok (.lload 4, 2) := by decide +kernel
theorem dX4_cashByTrades_29 : decode cX4_cashByTrades 29 = .ok (.aload_n 0, 1) := by decide +kernel
theorem dX4_cashByTrades_30 : decode cX4_cashByTrades 30 = .ok (.getfield 26, 3) := by decide +kernel
theorem dX4_cashByTrades_33 : decode cX4_cashByTrades 33 = .ok (.iload 6, 2) := by decide +kernel
theorem dX4_cashByTrades_35 : decode cX4_cashByTrades 35 = .ok (.invokevirtual 134, 3) := by decide +kernel
theorem dX4_cashByTrades_38 : decode cX4_cashByTrades 38 = .ok (.checkcast 90, 3) := by decide +kernel
theorem dX4_cashByTrades_41 : decode cX4_cashByTrades 41 = .ok (.iload_n 1, 1) := by decide +kernel
theorem dX4_cashByTrades_42 : decode cX4_cashByTrades 42 = .ok (.iload_n 2, 1) := by decide +kernel
theorem dX4_cashByTrades_43 : decode cX4_cashByTrades 43 = .ok (.iload_n 3, 1) := by decide +kernel
theorem dX4_cashByTrades_44 : decode cX4_cashByTrades 44 = .ok (.aload_n 0, 1) := by decide +kernel
theorem dX4_cashByTrades_45 : decode cX4_cashByTrades 45 = .ok (.getfield 19, 3) := by decide +kernel
theorem dX4_cashByTrades_48 : decode cX4_cashByTrades 48 = .ok (.invokevirtual 169, 3) := by decide +kernel
theorem dX4_cashByTrades_51 : decode cX4_cashByTrades 51 = .ok (.ladd, 1) := by decide +kernel
theorem dX4_cashByTrades_52 : decode cX4_cashByTrades 52 = .ok (.lstore 4, 2) := by decide +kernel
theorem dX4_cashByTrades_54 : decode cX4_cashByTrades 54 = .ok (.iinc 6 1, 3) := by decide +kernel
theorem dX4_cashByTrades_57 : decode cX4_cashByTrades 57 = .ok (.goto (-42), 3) := by decide +kernel
theorem dX4_cashByTrades_60 : decode cX4_cashByTrades 60 = .ok (.lload 4, 2) := by decide +kernel
theorem dX4_cashByTrades_62 : decode cX4_cashByTrades 62 = .ok (.lreturn, 1) := by decide +kernel
theorem dX4_nextFlow_0 : decode cX4_nextFlow 0 = .ok (.iload_n 1, 1) := by decide +kernel
theorem dX4_nextFlow_1 : decode cX4_nextFlow 1 = .ok (.invokestatic 81, 3) := by decide +kernel
theorem dX4_nextFlow_4 : decode cX4_nextFlow 4 = .ok (.iload_n 2, 1) := by decide +kernel
theorem dX4_nextFlow_5 : decode cX4_nextFlow 5 = .ok (.iconst 0, 1) := by decide +kernel
theorem dX4_nextFlow_6 : decode cX4_nextFlow 6 = .ok (.sipush 3100, 3) := by decide +kernel
theorem dX4_nextFlow_9 : decode cX4_nextFlow 9 = .ok (.invokestatic 37, 3) := by decide +kernel
theorem dX4_nextFlow_12 : decode cX4_nextFlow 12 = .ok (.iconst (-1), 1) := by decide +kernel
theorem dX4_nextFlow_13 : decode cX4_nextFlow 13 = .ok (.istore_n 3, 1) := by decide +kernel
theorem dX4_nextFlow_14 : decode cX4_nextFlow 14 = .ok (.iconst 0, 1) := by decide +kernel
theorem dX4_nextFlow_15 : decode cX4_nextFlow 15 = .ok (.istore 4, 2) := by decide +kernel
theorem dX4_nextFlow_17 : decode cX4_nextFlow 17 = .ok (.iload 4, 2) := by decide +kernel
theorem dX4_nextFlow_19 : decode cX4_nextFlow 19 = .ok (.aload_n 0, 1) := by decide +kernel
theorem dX4_nextFlow_20 : decode cX4_nextFlow 20 = .ok (.getfield 26, 3) := by decide +kernel
theorem dX4_nextFlow_23 : decode cX4_nextFlow 23 = .ok (.invokevirtual 85, 3) := by decide +kernel
theorem dX4_nextFlow_26 : decode cX4_nextFlow 26 = .ok (.if_icmp .ge 48, 3) := by decide +kernel
theorem dX4_nextFlow_29 : decode cX4_nextFlow 29 = .ok (.aload_n 0, 1) := by decide +kernel
theorem dX4_nextFlow_30 : decode cX4_nextFlow 30 = .ok (.getfield 26, 3) := by decide +kernel
theorem dX4_nextFlow_33 : decode cX4_nextFlow 33 = .ok (.iload 4, 2) := by decide +kernel
theorem dX4_nextFlow_35 : decode cX4_nextFlow 35 = .ok (.invokevirtual 134, 3) := by decide +kernel
theorem dX4_nextFlow_38 : decode cX4_nextFlow 38 = .ok (.checkcast 90, 3) := by decide +kernel
theorem dX4_nextFlow_41 : decode cX4_nextFlow 41 = .ok (.iload_n 1, 1) := by decide +kernel
theorem dX4_nextFlow_42 : decode cX4_nextFlow 42 = .ok (.iload_n 2, 1) := by decide +kernel
theorem dX4_nextFlow_43 : decode cX4_nextFlow 43 = .ok (.invokevirtual 173, 3) := by decide +kernel
theorem dX4_nextFlow_46 : decode cX4_nextFlow 46 = .ok (.istore 5, 2) := by decide +kernel
theorem dX4_nextFlow_48 : decode cX4_nextFlow 48 = .ok (.iload 5, 2) := by decide +kernel
theorem dX4_nextFlow_50 : decode cX4_nextFlow 50 = .ok (.iconst (-1), 1) := by decide +kernel
theorem dX4_nextFlow_51 : decode cX4_nextFlow 51 = .ok (.if_icmp .eq 17, 3) := by decide +kernel
theorem dX4_nextFlow_54 : decode cX4_nextFlow 54 = .ok (.iload_n 3, 1) := by decide +kernel
theorem dX4_nextFlow_55 : decode cX4_nextFlow 55 = .ok (.iconst (-1), 1) := by decide +kernel
theorem dX4_nextFlow_56 : decode cX4_nextFlow 56 = .ok (.if_icmp .eq 9, 3) := by decide +kernel
theorem dX4_nextFlow_59 : decode cX4_nextFlow 59 = .ok (.iload 5, 2) := by decide +kernel
theorem dX4_nextFlow_61 : decode cX4_nextFlow 61 = .ok (.iload_n 3, 1) := by decide +kernel
theorem dX4_nextFlow_62 : decode cX4_nextFlow 62 = .ok (.if_icmp .ge 6, 3) := by decide +kernel
theorem dX4_nextFlow_65 : decode cX4_nextFlow 65 = .ok (.iload 5, 2) := by decide +kernel
theorem dX4_nextFlow_67 : decode cX4_nextFlow 67 = .ok (.istore_n 3, 1) := by decide +kernel
theorem dX4_nextFlow_68 : decode cX4_nextFlow 68 = .ok (.iinc 4 1, 3) := by decide +kernel
theorem dX4_nextFlow_71 : decode cX4_nextFlow 71 = .ok (.goto (-54), 3) := by decide +kernel
theorem dX4_nextFlow_74 : decode cX4_nextFlow 74 = .ok (.iload_n 3, 1) := by decide +kernel
theorem dX4_nextFlow_75 : decode cX4_nextFlow 75 = .ok (.ireturn, 1) := by decide +kernel
theorem dX4_checkRange_0 : decode cX4_checkRange 0 = .ok (.iload_n 0, 1) := by decide +kernel
theorem dX4_checkRange_1 : decode cX4_checkRange 1 = .ok (.iload_n 1, 1) := by decide +kernel
theorem dX4_checkRange_2 : decode cX4_checkRange 2 = .ok (.if_icmp .lt 8, 3) := by decide +kernel
theorem dX4_checkRange_5 : decode cX4_checkRange 5 = .ok (.iload_n 0, 1) := by decide +kernel
theorem dX4_checkRange_6 : decode cX4_checkRange 6 = .ok (.iload_n 2, 1) := by decide +kernel
theorem dX4_checkRange_7 : decode cX4_checkRange 7 = .ok (.if_icmp .le 13, 3) := by decide +kernel
theorem dX4_checkRange_10 : decode cX4_checkRange 10 = .ok (.new 176, 3) := by decide +kernel
theorem dX4_checkRange_13 : decode cX4_checkRange 13 = .ok (.dup, 1) := by decide +kernel
theorem dX4_checkRange_14 : decode cX4_checkRange 14 = .ok (.ldc 178, 2) := by decide +kernel
theorem dX4_checkRange_16 : decode cX4_checkRange 16 = .ok (.invokespecial 180, 3) := by decide +kernel
theorem dX4_checkRange_19 : decode cX4_checkRange 19 = .ok (.athrow, 1) := by decide +kernel
theorem dX4_checkRange_20 : decode cX4_checkRange 20 = .ok (.return_, 1) := by decide +kernel
theorem dX4_checkSpan_0 : decode cX4_checkSpan 0 = .ok (.iload_n 0, 1) := by decide +kernel
theorem dX4_checkSpan_1 : decode cX4_checkSpan 1 = .ok (.iconst 0, 1) := by decide +kernel
theorem dX4_checkSpan_2 : decode cX4_checkSpan 2 = .ok (.sipush 3100, 3) := by decide +kernel
theorem dX4_checkSpan_5 : decode cX4_checkSpan 5 = .ok (.invokestatic 37, 3) := by decide +kernel
theorem dX4_checkSpan_8 : decode cX4_checkSpan 8 = .ok (.iload_n 1, 1) := by decide +kernel
theorem dX4_checkSpan_9 : decode cX4_checkSpan 9 = .ok (.iload_n 0, 1) := by decide +kernel
theorem dX4_checkSpan_10 : decode cX4_checkSpan 10 = .ok (.iload_n 0, 1) := by decide +kernel
theorem dX4_checkSpan_11 : decode cX4_checkSpan 11 = .ok (.sipush 400, 3) := by decide +kernel
theorem dX4_checkSpan_14 : decode cX4_checkSpan 14 = .ok (.iadd, 1) := by decide +kernel
theorem dX4_checkSpan_15 : decode cX4_checkSpan 15 = .ok (.sipush 3100, 3) := by decide +kernel
theorem dX4_checkSpan_18 : decode cX4_checkSpan 18 = .ok (.invokestatic 181, 3) := by decide +kernel
theorem dX4_checkSpan_21 : decode cX4_checkSpan 21 = .ok (.invokestatic 37, 3) := by decide +kernel
theorem dX4_checkSpan_24 : decode cX4_checkSpan 24 = .ok (.return_, 1) := by decide +kernel
theorem dX4_checkParty_0 : decode cX4_checkParty 0 = .ok (.iload_n 0, 1) := by decide +kernel
theorem dX4_checkParty_1 : decode cX4_checkParty 1 = .ok (.ifCond .lt 8, 3) := by decide +kernel
theorem dX4_checkParty_4 : decode cX4_checkParty 4 = .ok (.iload_n 0, 1) := by decide +kernel
theorem dX4_checkParty_5 : decode cX4_checkParty 5 = .ok (.iconst 4, 1) := by decide +kernel
theorem dX4_checkParty_6 : decode cX4_checkParty 6 = .ok (.if_icmp .lt 13, 3) := by decide +kernel
theorem dX4_checkParty_9 : decode cX4_checkParty 9 = .ok (.new 30, 3) := by decide +kernel
theorem dX4_checkParty_12 : decode cX4_checkParty 12 = .ok (.dup, 1) := by decide +kernel
theorem dX4_checkParty_13 : decode cX4_checkParty 13 = .ok (.ldc 186, 2) := by decide +kernel
theorem dX4_checkParty_15 : decode cX4_checkParty 15 = .ok (.invokespecial 34, 3) := by decide +kernel
theorem dX4_checkParty_18 : decode cX4_checkParty 18 = .ok (.athrow, 1) := by decide +kernel
theorem dX4_checkParty_19 : decode cX4_checkParty 19 = .ok (.return_, 1) := by decide +kernel
theorem dX4_swapAt_0 : decode cX4_swapAt 0 = .ok (.iload_n 1, 1) := by decide +kernel
theorem dX4_swapAt_1 : decode cX4_swapAt 1 = .ok (.ifCond .lt 14, 3) := by decide +kernel
theorem dX4_swapAt_4 : decode cX4_swapAt 4 = .ok (.iload_n 1, 1) := by decide +kernel
theorem dX4_swapAt_5 : decode cX4_swapAt 5 = .ok (.aload_n 0, 1) := by decide +kernel
theorem dX4_swapAt_6 : decode cX4_swapAt 6 = .ok (.getfield 26, 3) := by decide +kernel
theorem dX4_swapAt_9 : decode cX4_swapAt 9 = .ok (.invokevirtual 85, 3) := by decide +kernel
theorem dX4_swapAt_12 : decode cX4_swapAt 12 = .ok (.if_icmp .lt 13, 3) := by decide +kernel
theorem dX4_swapAt_15 : decode cX4_swapAt 15 = .ok (.new 30, 3) := by decide +kernel
theorem dX4_swapAt_18 : decode cX4_swapAt 18 = .ok (.dup, 1) := by decide +kernel
theorem dX4_swapAt_19 : decode cX4_swapAt 19 = .ok (.ldc 188, 2) := by decide +kernel
theorem dX4_swapAt_21 : decode cX4_swapAt 21 = .ok (.invokespecial 34, 3) := by decide +kernel
theorem dX4_swapAt_24 : decode cX4_swapAt 24 = .ok (.athrow, 1) := by decide +kernel
theorem dX4_swapAt_25 : decode cX4_swapAt 25 = .ok (.aload_n 0, 1) := by decide +kernel
theorem dX4_swapAt_26 : decode cX4_swapAt 26 = .ok (.getfield 26, 3) := by decide +kernel
theorem dX4_swapAt_29 : decode cX4_swapAt 29 = .ok (.iload_n 1, 1) := by decide +kernel
theorem dX4_swapAt_30 : decode cX4_swapAt 30 = .ok (.invokevirtual 134, 3) := by decide +kernel
theorem dX4_swapAt_33 : decode cX4_swapAt 33 = .ok (.checkcast 90, 3) := by decide +kernel
theorem dX4_swapAt_36 : decode cX4_swapAt 36 = .ok (.areturn, 1) := by decide +kernel
theorem dX4_swapWithPeriod_0 : decode cX4_swapWithPeriod 0 = .ok (.aload_n 0, 1) := by decide +kernel
theorem dX4_swapWithPeriod_1 : decode cX4_swapWithPeriod 1 = .ok (.iload_n 1, 1) := by decide +kernel
theorem dX4_swapWithPeriod_2 : decode cX4_swapWithPeriod 2 = .ok (.invokevirtual 102, 3) := by decide +kernel
theorem dX4_swapWithPeriod_5 : decode cX4_swapWithPeriod 5 = .ok (.astore_n 3, 1) := by decide +kernel
theorem dX4_swapWithPeriod_6 : decode cX4_swapWithPeriod 6 = .ok (.iload_n 2, 1) := by decide +kernel
theorem dX4_swapWithPeriod_7 : decode cX4_swapWithPeriod 7 = .ok (.ifCond .lt 11, 3) := by decide +kernel
theorem dX4_swapWithPeriod_10 : decode cX4_swapWithPeriod 10 = .ok (.iload_n 2, 1) := by decide +kernel
theorem dX4_swapWithPeriod_11 : decode cX4_swapWithPeriod 11 = .ok (.aload_n 3, 1) := by decide +kernel
theorem dX4_swapWithPeriod_12 : decode cX4_swapWithPeriod 12 = .ok (.getfield 190, 3) := by decide +kernel
theorem dX4_swapWithPeriod_15 : decode cX4_swapWithPeriod 15 = .ok (.if_icmp .lt 13, 3) := by decide +kernel
theorem dX4_swapWithPeriod_18 : decode cX4_swapWithPeriod 18 = .ok (.new 30, 3) := by decide +kernel
theorem dX4_swapWithPeriod_21 : decode cX4_swapWithPeriod 21 = .ok (.dup, 1) := by decide +kernel
theorem dX4_swapWithPeriod_22 : decode cX4_swapWithPeriod 22 = .ok (.ldc 193, 2) := by decide +kernel
theorem dX4_swapWithPeriod_24 : decode cX4_swapWithPeriod 24 = .ok (.invokespecial 34, 3) := by decide +kernel
theorem dX4_swapWithPeriod_27 : decode cX4_swapWithPeriod 27 = .ok (.athrow, 1) := by decide +kernel
theorem dX4_swapWithPeriod_28 : decode cX4_swapWithPeriod 28 = .ok (.aload_n 3, 1) := by decide +kernel
theorem dX4_swapWithPeriod_29 : decode cX4_swapWithPeriod 29 = .ok (.areturn, 1) := by decide +kernel
theorem dX4_rollAllTrades_0 : decode cX4_rollAllTrades 0 = .ok (.iconst 0, 1) := by decide +kernel
theorem dX4_rollAllTrades_1 : decode cX4_rollAllTrades 1 = .ok (.istore_n 1, 1) := by decide +kernel
theorem dX4_rollAllTrades_2 : decode cX4_rollAllTrades 2 = .ok (.iload_n 1, 1) := by decide +kernel
theorem dX4_rollAllTrades_3 : decode cX4_rollAllTrades 3 = .ok (.aload_n 0, 1) := by decide +kernel
theorem dX4_rollAllTrades_4 : decode cX4_rollAllTrades 4 = .ok (.getfield 26, 3) := by decide +kernel
theorem dX4_rollAllTrades_7 : decode cX4_rollAllTrades 7 = .ok (.invokevirtual 85, 3) := by decide +kernel
theorem dX4_rollAllTrades_10 : decode cX4_rollAllTrades 10 = .ok (.if_icmp .ge 27, 3) := by decide +kernel
theorem dX4_rollAllTrades_13 : decode cX4_rollAllTrades 13 = .ok (.aload_n 0, 1) := by decide +kernel
theorem dX4_rollAllTrades_14 : decode cX4_rollAllTrades 14 = .ok (.getfield 26, 3) := by decide +kernel
theorem dX4_rollAllTrades_17 : decode cX4_rollAllTrades 17 = .ok (.iload_n 1, 1) := by decide +kernel
theorem dX4_rollAllTrades_18 : decode cX4_rollAllTrades 18 = .ok (.invokevirtual 134, 3) := by decide +kernel
theorem dX4_rollAllTrades_21 : decode cX4_rollAllTrades 21 = .ok (.checkcast 90, 3) := by decide +kernel
theorem dX4_rollAllTrades_24 : decode cX4_rollAllTrades 24 = .ok (.aload_n 0, 1) := by decide +kernel
theorem dX4_rollAllTrades_25 : decode cX4_rollAllTrades 25 = .ok (.getfield 10, 3) := by decide +kernel
theorem dX4_rollAllTrades_28 : decode cX4_rollAllTrades 28 = .ok (.invokevirtual 95, 3) := by decide +kernel
theorem dX4_rollAllTrades_31 : decode cX4_rollAllTrades 31 = .ok (.iinc 1 1, 3) := by decide +kernel
theorem dX4_rollAllTrades_34 : decode cX4_rollAllTrades 34 = .ok (.goto (-32), 3) := by decide +kernel
theorem dX4_rollAllTrades_37 : decode cX4_rollAllTrades 37 = .ok (.return_, 1) := by decide +kernel
theorem dX4_cashOnDay_0 : decode cX4_cashOnDay 0 = .ok (.lconst 0, 1) := by decide +kernel
theorem dX4_cashOnDay_1 : decode cX4_cashOnDay 1 = .ok (.lstore_n 3, 1) := by decide +kernel
theorem dX4_cashOnDay_2 : decode cX4_cashOnDay 2 = .ok (.iconst 0, 1) := by decide +kernel
theorem dX4_cashOnDay_3 : decode cX4_cashOnDay 3 = .ok (.istore 5, 2) := by decide +kernel
theorem dX4_cashOnDay_5 : decode cX4_cashOnDay 5 = .ok (.iload 5, 2) := by decide +kernel
theorem dX4_cashOnDay_7 : decode cX4_cashOnDay 7 = .ok (.aload_n 0, 1) := by decide +kernel
theorem dX4_cashOnDay_8 : decode cX4_cashOnDay 8 = .ok (.getfield 26, 3) := by decide +kernel
theorem dX4_cashOnDay_11 : decode cX4_cashOnDay 11 = .ok (.invokevirtual 85, 3) := by decide +kernel
theorem dX4_cashOnDay_14 : decode cX4_cashOnDay 14 = .ok (.if_icmp .ge 34, 3) := by decide +kernel
theorem dX4_cashOnDay_17 : decode cX4_cashOnDay 17 = .ok (.lload_n 3, 1) := by decide +kernel
theorem dX4_cashOnDay_18 : decode cX4_cashOnDay 18 = .ok (.aload_n 0, 1) := by decide +kernel
theorem dX4_cashOnDay_19 : decode cX4_cashOnDay 19 = .ok (.getfield 26, 3) := by decide +kernel
theorem dX4_cashOnDay_22 : decode cX4_cashOnDay 22 = .ok (.iload 5, 2) := by decide +kernel
theorem dX4_cashOnDay_24 : decode cX4_cashOnDay 24 = .ok (.invokevirtual 134, 3) := by decide +kernel
theorem dX4_cashOnDay_27 : decode cX4_cashOnDay 27 = .ok (.checkcast 90, 3) := by decide +kernel
theorem dX4_cashOnDay_30 : decode cX4_cashOnDay 30 = .ok (.iload_n 1, 1) := by decide +kernel
theorem dX4_cashOnDay_31 : decode cX4_cashOnDay 31 = .ok (.iload_n 2, 1) := by decide +kernel
theorem dX4_cashOnDay_32 : decode cX4_cashOnDay 32 = .ok (.iload_n 2, 1) := by decide +kernel
theorem dX4_cashOnDay_33 : decode cX4_cashOnDay 33 = .ok (.aload_n 0, 1) := by decide +kernel
theorem dX4_cashOnDay_34 : decode cX4_cashOnDay 34 = .ok (.getfield 19, 3) := by decide +kernel
theorem dX4_cashOnDay_37 : decode cX4_cashOnDay 37 = .ok (.invokevirtual 169, 3) := by decide +kernel
theorem dX4_cashOnDay_40 : decode cX4_cashOnDay 40 = .ok (.ladd, 1) := by decide +kernel
theorem dX4_cashOnDay_41 : decode cX4_cashOnDay 41 = .ok (.lstore_n 3, 1) := by decide +kernel
theorem dX4_cashOnDay_42 : decode cX4_cashOnDay 42 = .ok (.iinc 5 1, 3) := by decide +kernel
theorem dX4_cashOnDay_45 : decode cX4_cashOnDay 45 = .ok (.goto (-40), 3) := by decide +kernel
theorem dX4_cashOnDay_48 : decode cX4_cashOnDay 48 = .ok (.lload_n 3, 1) := by decide +kernel
theorem dX4_cashOnDay_49 : decode cX4_cashOnDay 49 = .ok (.lreturn, 1) := by decide +kernel
theorem dX4_pressPair_0 : decode cX4_pressPair 0 = .ok (.aload_n 0, 1) := by decide +kernel
theorem dX4_pressPair_1 : decode cX4_pressPair 1 = .ok (.aload_n 1, 1) := by decide +kernel
theorem dX4_pressPair_2 : decode cX4_pressPair 2 = .ok (.invokevirtual 195, 3) := by decide +kernel
theorem dX4_pressPair_5 : decode cX4_pressPair 5 = .ok (.ifCond .eq 12, 3) := by decide +kernel
theorem dX4_pressPair_8 : decode cX4_pressPair 8 = .ok (.aload_n 0, 1) := by decide +kernel
theorem dX4_pressPair_9 : decode cX4_pressPair 9 = .ok (.iload_n 2, 1) := by decide +kernel
theorem dX4_pressPair_10 : decode cX4_pressPair 10 = .ok (.aload_n 1, 1) := by decide +kernel
theorem dX4_pressPair_11 : decode cX4_pressPair 11 = .ok (.invokevirtual 199, 3) := by decide +kernel
theorem dX4_pressPair_14 : decode cX4_pressPair 14 = .ok (.ifCond .ne 5, 3) := by decide +kernel
theorem dX4_pressPair_17 : decode cX4_pressPair 17 = .ok (.iconst 0, 1) := by decide +kernel
theorem dX4_pressPair_18 : decode cX4_pressPair 18 = .ok (.ireturn, 1) := by decide +kernel
theorem dX4_pressPair_19 : decode cX4_pressPair 19 = .ok (.aload_n 0, 1) := by decide +kernel
theorem dX4_pressPair_20 : decode cX4_pressPair 20 = .ok (.invokevirtual 121, 3) := by decide +kernel
theorem dX4_pressPair_23 : decode cX4_pressPair 23 = .ok (.aload_n 1, 1) := by decide +kernel
theorem dX4_pressPair_24 : decode cX4_pressPair 24 = .ok (.invokevirtual 121, 3) := by decide +kernel
theorem dX4_pressPair_27 : decode cX4_pressPair 27 = .ok (.invokestatic 181, 3) := by decide +kernel
theorem dX4_pressPair_30 : decode cX4_pressPair 30 = .ok (.istore_n 3, 1) := by decide +kernel
theorem dX4_pressPair_31 : decode cX4_pressPair 31 = .ok (.iload_n 3, 1) := by decide +kernel
theorem dX4_pressPair_32 : decode cX4_pressPair 32 = .ok (.ifCond .gt 5, 3) := by decide +kernel
theorem dX4_pressPair_35 : decode cX4_pressPair 35 = .ok (.iconst 0, 1) := by decide +kernel
theorem dX4_pressPair_36 : decode cX4_pressPair 36 = .ok (.ireturn, 1) := by decide +kernel
theorem dX4_pressPair_37 : decode cX4_pressPair 37 = .ok (.aload_n 0, 1) := by decide +kernel
theorem dX4_pressPair_38 : decode cX4_pressPair 38 = .ok (.getfield 106, 3) := by decide +kernel
theorem dX4_pressPair_41 : decode cX4_pressPair 41 = .ok (.iload_n 2, 1) := by decide +kernel
theorem dX4_pressPair_42 : decode cX4_pressPair 42 = .ok (.iload_n 3, 1) := by decide +kernel
theorem dX4_pressPair_43 : decode cX4_pressPair 43 = .ok (.invokevirtual 58, 3) := by decide +kernel
theorem dX4_pressPair_46 : decode cX4_pressPair 46 = .ok (.aload_n 1, 1) := by decide +kernel
theorem dX4_pressPair_47 : decode cX4_pressPair 47 = .ok (.getfield 106, 3) := by decide +kernel
theorem dX4_pressPair_50 : decode cX4_pressPair 50 = .ok (.iload_n 2, 1) := by decide +kernel
theorem dX4_pressPair_51 : decode cX4_pressPair 51 = .ok (.iload_n 3, 1) := by decide +kernel
theorem dX4_pressPair_52 : decode cX4_pressPair 52 = .ok (.invokevirtual 58, 3) := by decide +kernel
theorem dX4_pressPair_55 : decode cX4_pressPair 55 = .ok (.iload_n 3, 1) := by decide +kernel
theorem dX4_pressPair_56 : decode cX4_pressPair 56 = .ok (.ireturn, 1) := by decide +kernel
end
section
theorem dL_cell_0 : decode cL_cell 0 = .ok (.iload_n 1, 1) := by decide +kernel
theorem dL_cell_1 : decode cL_cell 1 = .ok (.aload_n 0, 1) := by decide +kernel
theorem dL_cell_2 : decode cL_cell 2 = .ok (.arraylength, 1) := by decide +kernel
theorem dL_cell_3 : decode cL_cell 3 = .ok (.if_icmp .ge 9, 3) := by decide +kernel
theorem dL_cell_6 : decode cL_cell 6 = .ok (.aload_n 0, 1) := by decide +kernel
theorem dL_cell_7 : decode cL_cell 7 = .ok (.iload_n 1, 1) := by decide +kernel
theorem dL_cell_8 : decode cL_cell 8 = .ok (.iaload, 1) := by decide +kernel
theorem dL_cell_9 : decode cL_cell 9 = .ok (.goto 15, 3) := by decide +kernel
theorem dL_cell_12 : decode cL_cell 12 = .ok (.sipush 7919, 3) := by decide +kernel
theorem dL_cell_15 : decode cL_cell 15 = .ok (.iload_n 1, 1) := by decide +kernel
theorem dL_cell_16 : decode cL_cell 16 = .ok (.iconst 3, 1) := by decide +kernel
theorem dL_cell_17 : decode cL_cell 17 = .ok (.iadd, 1) := by decide +kernel
theorem dL_cell_18 : decode cL_cell 18 = .ok (.imul, 1) := by decide +kernel
theorem dL_cell_19 : decode cL_cell 19 = .ok (.iload_n 1, 1) := by decide +kernel
theorem dL_cell_20 : decode cL_cell 20 = .ok (.bipush 11, 2) := by decide +kernel
theorem dL_cell_22 : decode cL_cell 22 = .ok (.iadd, 1) := by decide +kernel
theorem dL_cell_23 : decode cL_cell 23 = .ok (.imul, 1) := by decide +kernel
theorem dL_cell_24 : decode cL_cell 24 = .ok (.ireturn, 1) := by decide +kernel
theorem dL_low_0 : decode cL_low 0 = .ok (.iload_n 0, 1) := by decide +kernel
theorem dL_low_1 : decode cL_low 1 = .ok (.ldc 7, 2) := by decide +kernel
theorem dL_low_3 : decode cL_low 3 = .ok (.iand, 1) := by decide +kernel
theorem dL_low_4 : decode cL_low 4 = .ok (.iload_n 1, 1) := by decide +kernel
theorem dL_low_5 : decode cL_low 5 = .ok (.irem, 1) := by decide +kernel
theorem dL_low_6 : decode cL_low 6 = .ok (.ireturn, 1) := by decide +kernel
theorem dL_isCash_0 : decode cL_isCash 0 = .ok (.lconst 0, 1) := by decide +kernel
theorem dL_isCash_1 : decode cL_isCash 1 = .ok (.lstore 4, 2) := by decide +kernel
theorem dL_isCash_3 : decode cL_isCash 3 = .ok (.lconst 0, 1) := by decide +kernel
theorem dL_isCash_4 : decode cL_isCash 4 = .ok (.lstore 6, 2) := by decide +kernel
theorem dL_isCash_6 : decode cL_isCash 6 = .ok (.iconst 1, 1) := by decide +kernel
theorem dL_isCash_7 : decode cL_isCash 7 = .ok (.istore 8, 2) := by decide +kernel
theorem dL_isCash_9 : decode cL_isCash 9 = .ok (.iconst 0, 1) := by decide +kernel
theorem dL_isCash_10 : decode cL_isCash 10 = .ok (.istore 9, 2) := by decide +kernel
theorem dL_isCash_12 : decode cL_isCash 12 = .ok (.iload 9, 2) := by decide +kernel
theorem dL_isCash_14 : decode cL_isCash 14 = .ok (.iconst 4, 1) := by decide +kernel
theorem dL_isCash_15 : decode cL_isCash 15 = .ok (.if_icmp .ge 52, 3) := by decide +kernel
theorem dL_isCash_18 : decode cL_isCash 18 = .ok (.iload 8, 2) := by decide +kernel
theorem dL_isCash_20 : decode cL_isCash 20 = .ok (.ifCond .eq 47, 3) := by decide +kernel
theorem dL_isCash_23 : decode cL_isCash 23 = .ok (.aload_n 0, 1) := by decide +kernel
theorem dL_isCash_24 : decode cL_isCash 24 = .ok (.iload 9, 2) := by decide +kernel
theorem dL_isCash_26 : decode cL_isCash 26 = .ok (.iload_n 2, 1) := by decide +kernel
theorem dL_isCash_27 : decode cL_isCash 27 = .ok (.iload_n 3, 1) := by decide +kernel
theorem dL_isCash_28 : decode cL_isCash 28 = .ok (.invokevirtual 8, 3) := by decide +kernel
theorem dL_isCash_31 : decode cL_isCash 31 = .ok (.lstore 10, 2) := by decide +kernel
theorem dL_isCash_33 : decode cL_isCash 33 = .ok (.lload 4, 2) := by decide +kernel
theorem dL_isCash_35 : decode cL_isCash 35 = .ok (.lload 10, 2) := by decide +kernel
theorem dL_isCash_37 : decode cL_isCash 37 = .ok (.ladd, 1) := by decide +kernel
theorem dL_isCash_38 : decode cL_isCash 38 = .ok (.lstore 4, 2) := by decide +kernel
theorem dL_isCash_40 : decode cL_isCash 40 = .ok (.aload_n 0, 1) := by decide +kernel
theorem dL_isCash_41 : decode cL_isCash 41 = .ok (.iload 9, 2) := by decide +kernel
theorem dL_isCash_43 : decode cL_isCash 43 = .ok (.iload_n 2, 1) := by decide +kernel
theorem dL_isCash_44 : decode cL_isCash 44 = .ok (.iload_n 3, 1) := by decide +kernel
theorem dL_isCash_45 : decode cL_isCash 45 = .ok (.invokevirtual 14, 3) := by decide +kernel
theorem dL_isCash_48 : decode cL_isCash 48 = .ok (.lload 10, 2) := by decide +kernel
theorem dL_isCash_50 : decode cL_isCash 50 = .ok (.lcmp, 1) := by decide +kernel
theorem dL_isCash_51 : decode cL_isCash 51 = .ok (.ifCond .ne 7, 3) := by decide +kernel
theorem dL_isCash_54 : decode cL_isCash 54 = .ok (.iconst 1, 1) := by decide +kernel
theorem dL_isCash_55 : decode cL_isCash 55 = .ok (.goto 4, 3) := by decide +kernel
theorem dL_isCash_58 : decode cL_isCash 58 = .ok (.iconst 0, 1) := by decide +kernel
theorem dL_isCash_59 : decode cL_isCash 59 = .ok (.istore 8, 2) := by decide +kernel
theorem dL_isCash_61 : decode cL_isCash 61 = .ok (.iinc 9 1, 3) := by decide +kernel
theorem dL_isCash_64 : decode cL_isCash 64 = .ok (.goto (-52), 3) := by decide +kernel
theorem dL_isCash_67 : decode cL_isCash 67 = .ok (.iconst 0, 1) := by decide +kernel
theorem dL_isCash_68 : decode cL_isCash 68 = .ok (.istore 9, 2) := by decide +kernel
theorem dL_isCash_70 : decode cL_isCash 70 = .ok (.iload 9, 2) := by decide +kernel
theorem dL_isCash_72 : decode cL_isCash 72 = .ok (.aload_n 0, 1) := by decide +kernel
theorem dL_isCash_73 : decode cL_isCash 73 = .ok (.invokevirtual 17, 3) := by decide +kernel
theorem dL_isCash_76 : decode cL_isCash 76 = .ok (.if_icmp .ge 109, 3) := by decide +kernel
theorem dL_isCash_79 : decode cL_isCash 79 = .ok (.iconst 0, 1) := by decide +kernel
theorem dL_isCash_80 : decode cL_isCash 80 = .ok (.istore 10, 2) := by decide +kernel
theorem dL_isCash_82 : decode cL_isCash 82 = .ok (.iload 10, 2) := by decide +kernel
theorem dL_isCash_84 : decode cL_isCash 84 = .ok (.aload_n 1, 1) := by decide +kernel
theorem dL_isCash_85 : decode cL_isCash 85 = .ok (.iload 9, 2) := by decide +kernel
theorem dL_isCash_87 : decode cL_isCash 87 = .ok (.iaload, 1) := by decide +kernel
theorem dL_isCash_88 : decode cL_isCash 88 = .ok (.if_icmp .ge 91, 3) := by decide +kernel
theorem dL_isCash_91 : decode cL_isCash 91 = .ok (.aload_n 0, 1) := by decide +kernel
theorem dL_isCash_92 : decode cL_isCash 92 = .ok (.iload 9, 2) := by decide +kernel
theorem dL_isCash_94 : decode cL_isCash 94 = .ok (.iload 10, 2) := by decide +kernel
theorem dL_isCash_96 : decode cL_isCash 96 = .ok (.invokevirtual 21, 3) := by decide +kernel
theorem dL_isCash_99 : decode cL_isCash 99 = .ok (.istore 11, 2) := by decide +kernel
theorem dL_isCash_101 : decode cL_isCash 101 = .ok (.lload 6, 2) := by decide +kernel
theorem dL_isCash_103 : decode cL_isCash 103 = .ok (.iload 11, 2) := by decide +kernel
theorem dL_isCash_105 : decode cL_isCash 105 = .ok (.iload_n 2, 1) := by decide +kernel
theorem dL_isCash_106 : decode cL_isCash 106 = .ok (.if_icmp .lt 20, 3) := by decide +kernel
theorem dL_isCash_109 : decode cL_isCash 109 = .ok (.iload 11, 2) := by decide +kernel
theorem dL_isCash_111 : decode cL_isCash 111 = .ok (.iload_n 3, 1) := by decide +kernel
theorem dL_isCash_112 : decode cL_isCash 112 = .ok (.if_icmp .gt 14, 3) := by decide +kernel
theorem dL_isCash_115 : decode cL_isCash 115 = .ok (.aload_n 0, 1) := by decide +kernel
theorem dL_isCash_116 : decode cL_isCash 116 = .ok (.iload 9, 2) := by decide +kernel
theorem dL_isCash_118 : decode cL_isCash 118 = .ok (.iload 10, 2) := by decide +kernel
theorem dL_isCash_120 : decode cL_isCash 120 = .ok (.invokevirtual 25, 3) := by decide +kernel
theorem dL_isCash_123 : decode cL_isCash 123 = .ok (.goto 4, 3) := by decide +kernel
theorem dL_isCash_126 : decode cL_isCash 126 = .ok (.lconst 0, 1) := by decide +kernel
theorem dL_isCash_127 : decode cL_isCash 127 = .ok (.ladd, 1) := by decide +kernel
theorem dL_isCash_128 : decode cL_isCash 128 = .ok (.lstore 6, 2) := by decide +kernel
theorem dL_isCash_130 : decode cL_isCash 130 = .ok (.iload 8, 2) := by decide +kernel
theorem dL_isCash_132 : decode cL_isCash 132 = .ok (.ifCond .eq 38, 3) := by decide +kernel
theorem dL_isCash_135 : decode cL_isCash 135 = .ok (.iload 11, 2) := by decide +kernel
theorem dL_isCash_137 : decode cL_isCash 137 = .ok (.iload_n 2, 1) := by decide +kernel
theorem dL_isCash_138 : decode cL_isCash 138 = .ok (.if_icmp .lt 28, 3) := by decide +kernel
theorem dL_isCash_141 : decode cL_isCash 141 = .ok (.iload 11, 2) := by decide +kernel
theorem dL_isCash_143 : decode cL_isCash 143 = .ok (.iload_n 3, 1) := by decide +kernel
theorem dL_isCash_144 : decode cL_isCash 144 = .ok (.if_icmp .gt 22, 3) := by decide +kernel
theorem dL_isCash_147 : decode cL_isCash 147 = .ok (.aload_n 0, 1) := by decide +kernel
theorem dL_isCash_148 : decode cL_isCash 148 = .ok (.aload_n 0, 1) := by decide +kernel
theorem dL_isCash_149 : decode cL_isCash 149 = .ok (.iload 9, 2) := by decide +kernel
theorem dL_isCash_151 : decode cL_isCash 151 = .ok (.iload 11, 2) := by decide +kernel
theorem dL_isCash_153 : decode cL_isCash 153 = .ok (.invokevirtual 29, 3) := by decide +kernel
theorem dL_isCash_156 : decode cL_isCash 156 = .ok (.iload 11, 2) := by decide +kernel
theorem dL_isCash_158 : decode cL_isCash 158 = .ok (.invokevirtual 32, 3) := by decide +kernel
theorem dL_isCash_161 : decode cL_isCash 161 = .ok (.iload 11, 2) := by decide +kernel
theorem dL_isCash_163 : decode cL_isCash 163 = .ok (.if_icmp .ne 7, 3) := by decide +kernel
theorem dL_isCash_166 : decode cL_isCash 166 = .ok (.iconst 1, 1) := by decide +kernel
theorem dL_isCash_167 : decode cL_isCash 167 = .ok (.goto 4, 3) := by decide +kernel
theorem dL_isCash_170 : decode cL_isCash 170 = .ok (.iconst 0, 1) := by decide +kernel
theorem dL_isCash_171 : decode cL_isCash 171 = .ok (.istore 8, 2) := by decide +kernel
theorem dL_isCash_173 : decode cL_isCash 173 = .ok (.iinc 10 1, 3) := by decide +kernel
theorem dL_isCash_176 : decode cL_isCash 176 = .ok (.goto (-94), 3) := by decide +kernel
theorem dL_isCash_179 : decode cL_isCash 179 = .ok (.iinc 9 1, 3) := by decide +kernel
theorem dL_isCash_182 : decode cL_isCash 182 = .ok (.goto (-112), 3) := by decide +kernel
theorem dL_isCash_185 : decode cL_isCash 185 = .ok (.iload 8, 2) := by decide +kernel
theorem dL_isCash_187 : decode cL_isCash 187 = .ok (.ifCond .eq 15, 3) := by decide +kernel
theorem dL_isCash_190 : decode cL_isCash 190 = .ok (.lload 4, 2) := by decide +kernel
theorem dL_isCash_192 : decode cL_isCash 192 = .ok (.lload 6, 2) := by decide +kernel
theorem dL_isCash_194 : decode cL_isCash 194 = .ok (.lcmp, 1) := by decide +kernel
theorem dL_isCash_195 : decode cL_isCash 195 = .ok (.ifCond .ne 7, 3) := by decide +kernel
theorem dL_isCash_198 : decode cL_isCash 198 = .ok (.iconst 1, 1) := by decide +kernel
theorem dL_isCash_199 : decode cL_isCash 199 = .ok (.goto 4, 3) := by decide +kernel
theorem dL_isCash_202 : decode cL_isCash 202 = .ok (.iconst 0, 1) := by decide +kernel
theorem dL_isCash_203 : decode cL_isCash 203 = .ok (.ireturn, 1) := by decide +kernel
theorem dL_isPressed_0 : decode cL_isPressed 0 = .ok (.aload_n 0, 1) := by decide +kernel
theorem dL_isPressed_1 : decode cL_isPressed 1 = .ok (.iconst 0, 1) := by decide +kernel
theorem dL_isPressed_2 : decode cL_isPressed 2 = .ok (.iload_n 3, 1) := by decide +kernel
theorem dL_isPressed_3 : decode cL_isPressed 3 = .ok (.iload_n 3, 1) := by decide +kernel
theorem dL_isPressed_4 : decode cL_isPressed 4 = .ok (.sipush 400, 3) := by decide +kernel
theorem dL_isPressed_7 : decode cL_isPressed 7 = .ok (.iadd, 1) := by decide +kernel
theorem dL_isPressed_8 : decode cL_isPressed 8 = .ok (.invokevirtual 8, 3) := by decide +kernel
theorem dL_isPressed_11 : decode cL_isPressed 11 = .ok (.lstore 4, 2) := by decide +kernel
theorem dL_isPressed_13 : decode cL_isPressed 13 = .ok (.aload_n 0, 1) := by decide +kernel
theorem dL_isPressed_14 : decode cL_isPressed 14 = .ok (.iconst 1, 1) := by decide +kernel
theorem dL_isPressed_15 : decode cL_isPressed 15 = .ok (.iload_n 3, 1) := by decide +kernel
theorem dL_isPressed_16 : decode cL_isPressed 16 = .ok (.iload_n 3, 1) := by decide +kernel
theorem dL_isPressed_17 : decode cL_isPressed 17 = .ok (.sipush 400, 3) := by decide +kernel
theorem dL_isPressed_20 : decode cL_isPressed 20 = .ok (.iadd, 1) := by decide +kernel
theorem dL_isPressed_21 : decode cL_isPressed 21 = .ok (.invokevirtual 8, 3) := by decide +kernel
theorem dL_isPressed_24 : decode cL_isPressed 24 = .ok (.lstore 6, 2) := by decide +kernel
theorem dL_isPressed_26 : decode cL_isPressed 26 = .ok (.aload_n 0, 1) := by decide +kernel
theorem dL_isPressed_27 : decode cL_isPressed 27 = .ok (.iconst 2, 1) := by decide +kernel
theorem dL_isPressed_28 : decode cL_isPressed 28 = .ok (.iload_n 3, 1) := by decide +kernel
theorem dL_isPressed_29 : decode cL_isPressed 29 = .ok (.iload_n 3, 1) := by decide +kernel
theorem dL_isPressed_30 : decode cL_isPressed 30 = .ok (.sipush 400, 3) := by decide +kernel
theorem dL_isPressed_33 : decode cL_isPressed 33 = .ok (.iadd, 1) := by decide +kernel
theorem dL_isPressed_34 : decode cL_isPressed 34 = .ok (.invokevirtual 8, 3) := by decide +kernel
theorem dL_isPressed_37 : decode cL_isPressed 37 = .ok (.lstore 8, 2) := by decide +kernel
theorem dL_isPressed_39 : decode cL_isPressed 39 = .ok (.aload_n 0, 1) := by decide +kernel
theorem dL_isPressed_40 : decode cL_isPressed 40 = .ok (.iload_n 2, 1) := by decide +kernel
theorem dL_isPressed_41 : decode cL_isPressed 41 = .ok (.invokevirtual 35, 3) := by decide +kernel
theorem dL_isPressed_44 : decode cL_isPressed 44 = .ok (.istore 10, 2) := by decide +kernel
theorem dL_isPressed_46 : decode cL_isPressed 46 = .ok (.iload 10, 2) := by decide +kernel
theorem dL_isPressed_48 : decode cL_isPressed 48 = .ok (.ifCond .lt 58, 3) := by decide +kernel
theorem dL_isPressed_51 : decode cL_isPressed 51 = .ok (.aload_n 0, 1) := by decide +kernel
theorem dL_isPressed_52 : decode cL_isPressed 52 = .ok (.iconst 0, 1) := by decide +kernel
theorem dL_isPressed_53 : decode cL_isPressed 53 = .ok (.iload_n 3, 1) := by decide +kernel
theorem dL_isPressed_54 : decode cL_isPressed 54 = .ok (.iload_n 3, 1) := by decide +kernel
theorem dL_isPressed_55 : decode cL_isPressed 55 = .ok (.sipush 400, 3) := by decide +kernel
theorem dL_isPressed_58 : decode cL_isPressed 58 = .ok (.iadd, 1) := by decide +kernel
theorem dL_isPressed_59 : decode cL_isPressed 59 = .ok (.invokevirtual 8, 3) := by decide +kernel
theorem dL_isPressed_62 : decode cL_isPressed 62 = .ok (.lload 4, 2) := by decide +kernel
theorem dL_isPressed_64 : decode cL_isPressed 64 = .ok (.lcmp, 1) := by decide +kernel
theorem dL_isPressed_65 : decode cL_isPressed 65 = .ok (.ifCond .ne 41, 3) := by decide +kernel
theorem dL_isPressed_68 : decode cL_isPressed 68 = .ok (.aload_n 0, 1) := by decide +kernel
theorem dL_isPressed_69 : decode cL_isPressed 69 = .ok (.iconst 1, 1) := by decide +kernel
theorem dL_isPressed_70 : decode cL_isPressed 70 = .ok (.iload_n 3, 1) := by decide +kernel
theorem dL_isPressed_71 : decode cL_isPressed 71 = .ok (.iload_n 3, 1) := by decide +kernel
theorem dL_isPressed_72 : decode cL_isPressed 72 = .ok (.sipush 400, 3) := by decide +kernel
theorem dL_isPressed_75 : decode cL_isPressed 75 = .ok (.iadd, 1) := by decide +kernel
theorem dL_isPressed_76 : decode cL_isPressed 76 = .ok (.invokevirtual 8, 3) := by decide +kernel
theorem dL_isPressed_79 : decode cL_isPressed 79 = .ok (.lload 6, 2) := by decide +kernel
theorem dL_isPressed_81 : decode cL_isPressed 81 = .ok (.lcmp, 1) := by decide +kernel
theorem dL_isPressed_82 : decode cL_isPressed 82 = .ok (.ifCond .ne 24, 3) := by decide +kernel
theorem dL_isPressed_85 : decode cL_isPressed 85 = .ok (.aload_n 0, 1) := by decide +kernel
theorem dL_isPressed_86 : decode cL_isPressed 86 = .ok (.iconst 2, 1) := by decide +kernel
theorem dL_isPressed_87 : decode cL_isPressed 87 = .ok (.iload_n 3, 1) := by decide +kernel
theorem dL_isPressed_88 : decode cL_isPressed 88 = .ok (.iload_n 3, 1) := by decide +kernel
theorem dL_isPressed_89 : decode cL_isPressed 89 = .ok (.sipush 400, 3) := by decide +kernel
theorem dL_isPressed_92 : decode cL_isPressed 92 = .ok (.iadd, 1) := by decide +kernel
theorem dL_isPressed_93 : decode cL_isPressed 93 = .ok (.invokevirtual 8, 3) := by decide +kernel
theorem dL_isPressed_96 : decode cL_isPressed 96 = .ok (.lload 8, 2) := by decide +kernel
theorem dL_isPressed_98 : decode cL_isPressed 98 = .ok (.lcmp, 1) := by decide +kernel
theorem dL_isPressed_99 : decode cL_isPressed 99 = .ok (.ifCond .ne 7, 3) := by decide +kernel
theorem dL_isPressed_102 : decode cL_isPressed 102 = .ok (.iconst 1, 1) := by decide +kernel
theorem dL_isPressed_103 : decode cL_isPressed 103 = .ok (.goto 4, 3) := by decide +kernel
theorem dL_isPressed_106 : decode cL_isPressed 106 = .ok (.iconst 0, 1) := by decide +kernel
theorem dL_isPressed_107 : decode cL_isPressed 107 = .ok (.istore 11, 2) := by decide +kernel
theorem dL_isPressed_109 : decode cL_isPressed 109 = .ok (.iconst 0, 1) := by decide +kernel
theorem dL_isPressed_110 : decode cL_isPressed 110 = .ok (.istore 12, 2) := by decide +kernel
theorem dL_isPressed_112 : decode cL_isPressed 112 = .ok (.iload 12, 2) := by decide +kernel
theorem dL_isPressed_114 : decode cL_isPressed 114 = .ok (.aload_n 0, 1) := by decide +kernel
theorem dL_isPressed_115 : decode cL_isPressed 115 = .ok (.invokevirtual 17, 3) := by decide +kernel
theorem dL_isPressed_118 : decode cL_isPressed 118 = .ok (.if_icmp .ge 100, 3) := by decide +kernel
theorem dL_isPressed_121 : decode cL_isPressed 121 = .ok (.iload 11, 2) := by decide +kernel
theorem dL_isPressed_123 : decode cL_isPressed 123 = .ok (.ifCond .eq 95, 3) := by decide +kernel
theorem dL_isPressed_126 : decode cL_isPressed 126 = .ok (.iconst 0, 1) := by decide +kernel
theorem dL_isPressed_127 : decode cL_isPressed 127 = .ok (.istore 13, 2) := by decide +kernel
theorem dL_isPressed_129 : decode cL_isPressed 129 = .ok (.iload 13, 2) := by decide +kernel
theorem dL_isPressed_131 : decode cL_isPressed 131 = .ok (.aload_n 1, 1) := by decide +kernel
theorem dL_isPressed_132 : decode cL_isPressed 132 = .ok (.iload 12, 2) := by decide +kernel
theorem dL_isPressed_134 : decode cL_isPressed 134 = .ok (.iaload, 1) := by decide +kernel
theorem dL_isPressed_135 : decode cL_isPressed 135 = .ok (.if_icmp .ge 77, 3) := by decide +kernel
theorem dL_isPressed_138 : decode cL_isPressed 138 = .ok (.iload 11, 2) := by decide +kernel
theorem dL_isPressed_140 : decode cL_isPressed 140 = .ok (.ifCond .eq 72, 3) := by decide +kernel
theorem dL_isPressed_143 : decode cL_isPressed 143 = .ok (.aload_n 0, 1) := by decide +kernel
theorem dL_isPressed_144 : decode cL_isPressed 144 = .ok (.iload 12, 2) := by decide +kernel
theorem dL_isPressed_146 : decode cL_isPressed 146 = .ok (.iload 13, 2) := by decide +kernel
theorem dL_isPressed_148 : decode cL_isPressed 148 = .ok (.invokevirtual 39, 3) := by decide +kernel
theorem dL_isPressed_151 : decode cL_isPressed 151 = .ok (.ifCond .lt 52, 3) := by decide +kernel
theorem dL_isPressed_154 : decode cL_isPressed 154 = .ok (.iload 13, 2) := by decide +kernel
theorem dL_isPressed_156 : decode cL_isPressed 156 = .ok (.ifCond .eq 24, 3) := by decide +kernel
theorem dL_isPressed_159 : decode cL_isPressed 159 = .ok (.aload_n 0, 1) := by decide +kernel
theorem dL_isPressed_160 : decode cL_isPressed 160 = .ok (.iload 12, 2) := by decide +kernel
theorem dL_isPressed_162 : decode cL_isPressed 162 = .ok (.iload 13, 2) := by decide +kernel
theorem dL_isPressed_164 : decode cL_isPressed 164 = .ok (.invokevirtual 39, 3) := by decide +kernel
theorem dL_isPressed_167 : decode cL_isPressed 167 = .ok (.aload_n 0, 1) := by decide +kernel
theorem dL_isPressed_168 : decode cL_isPressed 168 = .ok (.iload 12, 2) := by decide +kernel
theorem dL_isPressed_170 : decode cL_isPressed 170 = .ok (.iload 13, 2) := by decide +kernel
theorem dL_isPressed_172 : decode cL_isPressed 172 = .ok (.iconst 1, 1) := by decide +kernel
theorem dL_isPressed_173 : decode cL_isPressed 173 = .ok (.isub, 1) := by decide +kernel
theorem dL_isPressed_174 : decode cL_isPressed 174 = .ok (.invokevirtual 39, 3) := by decide +kernel
theorem dL_isPressed_177 : decode cL_isPressed 177 = .ok (.if_icmp .gt 26, 3) := by decide +kernel
theorem dL_isPressed_180 : decode cL_isPressed 180 = .ok (.aload_n 0, 1) := by decide +kernel
theorem dL_isPressed_181 : decode cL_isPressed 181 = .ok (.iload 12, 2) := by decide +kernel
theorem dL_isPressed_183 : decode cL_isPressed 183 = .ok (.iload 13, 2) := by decide +kernel
theorem dL_isPressed_185 : decode cL_isPressed 185 = .ok (.invokevirtual 42, 3) := by decide +kernel
theorem dL_isPressed_188 : decode cL_isPressed 188 = .ok (.aload_n 0, 1) := by decide +kernel
theorem dL_isPressed_189 : decode cL_isPressed 189 = .ok (.iload 12, 2) := by decide +kernel
theorem dL_isPressed_191 : decode cL_isPressed 191 = .ok (.iload 13, 2) := by decide +kernel
theorem dL_isPressed_193 : decode cL_isPressed 193 = .ok (.invokevirtual 21, 3) := by decide +kernel
theorem dL_isPressed_196 : decode cL_isPressed 196 = .ok (.if_icmp .gt 7, 3) := by decide +kernel
theorem dL_isPressed_199 : decode cL_isPressed 199 = .ok (.iconst 1, 1) := by decide +kernel
theorem dL_isPressed_200 : decode cL_isPressed 200 = .ok (.goto 4, 3) := by decide +kernel
theorem dL_isPressed_203 : decode cL_isPressed 203 = .ok (.iconst 0, 1) := by decide +kernel
theorem dL_isPressed_204 : decode cL_isPressed 204 = .ok (.istore 11, 2) := by decide +kernel
theorem dL_isPressed_206 : decode cL_isPressed 206 = .ok (.iinc 13 1, 3) := by decide +kernel
theorem dL_isPressed_209 : decode cL_isPressed 209 = .ok (.goto (-80), 3) := by decide +kernel
theorem dL_isPressed_212 : decode cL_isPressed 212 = .ok (.iinc 12 1, 3) := by decide +kernel
theorem dL_isPressed_215 : decode cL_isPressed 215 = .ok (.goto (-103), 3) := by decide +kernel
theorem dL_isPressed_218 : decode cL_isPressed 218 = .ok (.iload 11, 2) := by decide +kernel
theorem dL_isPressed_220 : decode cL_isPressed 220 = .ok (.ifCond .eq 15, 3) := by decide +kernel
theorem dL_isPressed_223 : decode cL_isPressed 223 = .ok (.aload_n 0, 1) := by decide +kernel
theorem dL_isPressed_224 : decode cL_isPressed 224 = .ok (.iload_n 2, 1) := by decide +kernel
theorem dL_isPressed_225 : decode cL_isPressed 225 = .ok (.invokevirtual 35, 3) := by decide +kernel
theorem dL_isPressed_228 : decode cL_isPressed 228 = .ok (.ifCond .ne 7, 3) := by decide +kernel
theorem dL_isPressed_231 : decode cL_isPressed 231 = .ok (.iconst 1, 1) := by decide +kernel
theorem dL_isPressed_232 : decode cL_isPressed 232 = .ok (.goto 4, 3) := by decide +kernel
theorem dL_isPressed_235 : decode cL_isPressed 235 = .ok (.iconst 0, 1) := by decide +kernel
theorem dL_isPressed_236 : decode cL_isPressed 236 = .ok (.ireturn, 1) := by decide +kernel
theorem dL_breaks_0 : decode cL_breaks 0 = .ok (.aload_n 0, 1) := by decide +kernel
theorem dL_breaks_1 : decode cL_breaks 1 = .ok (.iload_n 1, 1) := by decide +kernel
theorem dL_breaks_2 : decode cL_breaks 2 = .ok (.iload_n 2, 1) := by decide +kernel
theorem dL_breaks_3 : decode cL_breaks 3 = .ok (.iload_n 3, 1) := by decide +kernel
theorem dL_breaks_4 : decode cL_breaks 4 = .ok (.invokevirtual 87, 3) := by decide +kernel
theorem dL_breaks_7 : decode cL_breaks 7 = .ok (.istore 6, 2) := by decide +kernel
theorem dL_breaks_9 : decode cL_breaks 9 = .ok (.iload 6, 2) := by decide +kernel
theorem dL_breaks_11 : decode cL_breaks 11 = .ok (.iconst 1, 1) := by decide +kernel
theorem dL_breaks_12 : decode cL_breaks 12 = .ok (.if_icmp .lt 23, 3) := by decide +kernel
theorem dL_breaks_15 : decode cL_breaks 15 = .ok (.aload_n 0, 1) := by decide +kernel
theorem dL_breaks_16 : decode cL_breaks 16 = .ok (.iload_n 1, 1) := by decide +kernel
theorem dL_breaks_17 : decode cL_breaks 17 = .ok (.iload 5, 2) := by decide +kernel
theorem dL_breaks_19 : decode cL_breaks 19 = .ok (.iconst 1, 1) := by decide +kernel
theorem dL_breaks_20 : decode cL_breaks 20 = .ok (.isub, 1) := by decide +kernel
theorem dL_breaks_21 : decode cL_breaks 21 = .ok (.invokevirtual 39, 3) := by decide +kernel
theorem dL_breaks_24 : decode cL_breaks 24 = .ok (.iload 4, 2) := by decide +kernel
theorem dL_breaks_26 : decode cL_breaks 26 = .ok (.iload_n 3, 1) := by decide +kernel
theorem dL_breaks_27 : decode cL_breaks 27 = .ok (.isub, 1) := by decide +kernel
theorem dL_breaks_28 : decode cL_breaks 28 = .ok (.if_icmp .ne 7, 3) := by decide +kernel
theorem dL_breaks_31 : decode cL_breaks 31 = .ok (.iconst 1, 1) := by decide +kernel
theorem dL_breaks_32 : decode cL_breaks 32 = .ok (.goto 4, 3) := by decide +kernel
theorem dL_breaks_35 : decode cL_breaks 35 = .ok (.iconst 0, 1) := by decide +kernel
theorem dL_breaks_36 : decode cL_breaks 36 = .ok (.ireturn, 1) := by decide +kernel
end
section
theorem dL_law_0 : decode cL_law 0 = .ok (.new 9, 3) := by decide +kernel
theorem dL_law_3 : decode cL_law 3 = .ok (.dup, 1) := by decide +kernel
theorem dL_law_4 : decode cL_law 4 = .ok (.invokespecial 45, 3) := by decide +kernel
theorem dL_law_7 : decode cL_law 7 = .ok (.astore_n 1, 1) := by decide +kernel
theorem dL_law_8 : decode cL_law 8 = .ok (.bipush 10, 2) := by decide +kernel
theorem dL_law_10 : decode cL_law 10 = .ok (.newarray .int, 2) := by decide +kernel
theorem dL_law_12 : decode cL_law 12 = .ok (.astore_n 2, 1) := by decide +kernel
theorem dL_law_13 : decode cL_law 13 = .ok (.bipush 10, 2) := by decide +kernel
theorem dL_law_15 : decode cL_law 15 = .ok (.newarray .int, 2) := by decide +kernel
theorem dL_law_17 : decode cL_law 17 = .ok (.astore_n 3, 1) := by decide +kernel
theorem dL_law_18 : decode cL_law 18 = .ok (.bipush 10, 2) := by decide +kernel
theorem dL_law_20 : decode cL_law 20 = .ok (.newarray .int, 2) := by decide +kernel
theorem dL_law_22 : decode cL_law 22 = .ok (.astore 4, 2) := by decide +kernel
theorem dL_law_24 : decode cL_law 24 = .ok (.iconst 2, 1) := by decide +kernel
theorem dL_law_25 : decode cL_law 25 = .ok (.newarray .int, 2) := by decide +kernel
theorem dL_law_27 : decode cL_law 27 = .ok (.astore 5, 2) := by decide +kernel
theorem dL_law_29 : decode cL_law 29 = .ok (.iconst 0, 1) := by decide +kernel
theorem dL_law_30 : decode cL_law 30 = .ok (.istore 6, 2) := by decide +kernel
theorem dL_law_32 : decode cL_law 32 = .ok (.iconst 0, 1) := by decide +kernel
theorem dL_law_33 : decode cL_law 33 = .ok (.istore 7, 2) := by decide +kernel
theorem dL_law_35 : decode cL_law 35 = .ok (.iload 7, 2) := by decide +kernel
theorem dL_law_37 : decode cL_law 37 = .ok (.bipush 44, 2) := by decide +kernel
theorem dL_law_39 : decode cL_law 39 = .ok (.if_icmp .ge 560, 3) := by decide +kernel
theorem dL_law_42 : decode cL_law 42 = .ok (.aload_n 0, 1) := by decide +kernel
theorem dL_law_43 : decode cL_law 43 = .ok (.iconst 2, 1) := by decide +kernel
theorem dL_law_44 : decode cL_law 44 = .ok (.iload 7, 2) := by decide +kernel
theorem dL_law_46 : decode cL_law 46 = .ok (.imul, 1) := by decide +kernel
theorem dL_law_47 : decode cL_law 47 = .ok (.invokestatic 46, 3) := by decide +kernel
theorem dL_law_50 : decode cL_law 50 = .ok (.istore 8, 2) := by decide +kernel
theorem dL_law_52 : decode cL_law 52 = .ok (.aload_n 0, 1) := by decide +kernel
theorem dL_law_53 : decode cL_law 53 = .ok (.iconst 2, 1) := by decide +kernel
theorem dL_law_54 : decode cL_law 54 = .ok (.iload 7, 2) := by decide +kernel
theorem dL_law_56 : decode cL_law 56 = .ok (.imul, 1) := by decide +kernel
theorem dL_law_57 : decode cL_law 57 = .ok (.iconst 1, 1) := by decide +kernel
theorem dL_law_58 : decode cL_law 58 = .ok (.iadd, 1) := by decide +kernel
theorem dL_law_59 : decode cL_law 59 = .ok (.invokestatic 46, 3) := by decide +kernel
theorem dL_law_62 : decode cL_law 62 = .ok (.istore 9, 2) := by decide +kernel
theorem dL_law_64 : decode cL_law 64 = .ok (.iload 8, 2) := by decide +kernel
theorem dL_law_66 : decode cL_law 66 = .ok (.bipush 12, 2) := by decide +kernel
theorem dL_law_68 : decode cL_law 68 = .ok (.invokestatic 52, 3) := by decide +kernel
theorem dL_law_71 : decode cL_law 71 = .ok (.istore 10, 2) := by decide +kernel
theorem dL_law_73 : decode cL_law 73 = .ok (.iconst 1, 1) := by decide +kernel
theorem dL_law_74 : decode cL_law 74 = .ok (.istore 11, 2) := by decide +kernel
theorem dL_law_76 : decode cL_law 76 = .ok (.iload 6, 2) := by decide +kernel
theorem dL_law_78 : decode cL_law 78 = .ok (.iconst 2, 1) := by decide +kernel
theorem dL_law_79 : decode cL_law 79 = .ok (.if_icmp .lt 16, 3) := by decide +kernel
theorem dL_law_82 : decode cL_law 82 = .ok (.iload 10, 2) := by decide +kernel
theorem dL_law_84 : decode cL_law 84 = .ok (.iconst 3, 1) := by decide +kernel
theorem dL_law_85 : decode cL_law 85 = .ok (.if_icmp .ge 105, 3) := by decide +kernel
theorem dL_law_88 : decode cL_law 88 = .ok (.iload 6, 2) := by decide +kernel
theorem dL_law_90 : decode cL_law 90 = .ok (.bipush 10, 2) := by decide +kernel
theorem dL_law_92 : decode cL_law 92 = .ok (.if_icmp .ge 98, 3) := by decide +kernel
theorem dL_law_95 : decode cL_law 95 = .ok (.aload_n 2, 1) := by decide +kernel
theorem dL_law_96 : decode cL_law 96 = .ok (.iload 6, 2) := by decide +kernel
theorem dL_law_98 : decode cL_law 98 = .ok (.iconst 1, 1) := by decide +kernel
theorem dL_law_99 : decode cL_law 99 = .ok (.iload 9, 2) := by decide +kernel
theorem dL_law_101 : decode cL_law 101 = .ok (.bipush 10, 2) := by decide +kernel
theorem dL_law_103 : decode cL_law 103 = .ok (.ishr, 1) := by decide +kernel
theorem dL_law_104 : decode cL_law 104 = .ok (.iconst 5, 1) := by decide +kernel
theorem dL_law_105 : decode cL_law 105 = .ok (.invokestatic 52, 3) := by decide +kernel
theorem dL_law_108 : decode cL_law 108 = .ok (.iadd, 1) := by decide +kernel
theorem dL_law_109 : decode cL_law 109 = .ok (.iastore, 1) := by decide +kernel
theorem dL_law_110 : decode cL_law 110 = .ok (.aload_n 3, 1) := by decide +kernel
theorem dL_law_111 : decode cL_law 111 = .ok (.iload 6, 2) := by decide +kernel
theorem dL_law_113 : decode cL_law 113 = .ok (.iconst 1, 1) := by decide +kernel
theorem dL_law_114 : decode cL_law 114 = .ok (.iload 9, 2) := by decide +kernel
theorem dL_law_116 : decode cL_law 116 = .ok (.bipush 20, 2) := by decide +kernel
theorem dL_law_118 : decode cL_law 118 = .ok (.invokestatic 52, 3) := by decide +kernel
theorem dL_law_121 : decode cL_law 121 = .ok (.iadd, 1) := by decide +kernel
theorem dL_law_122 : decode cL_law 122 = .ok (.iastore, 1) := by decide +kernel
theorem dL_law_123 : decode cL_law 123 = .ok (.aload_n 1, 1) := by decide +kernel
theorem dL_law_124 : decode cL_law 124 = .ok (.iload 9, 2) := by decide +kernel
theorem dL_law_126 : decode cL_law 126 = .ok (.iconst 5, 1) := by decide +kernel
theorem dL_law_127 : decode cL_law 127 = .ok (.ishr, 1) := by decide +kernel
theorem dL_law_128 : decode cL_law 128 = .ok (.iconst 2, 1) := by decide +kernel
theorem dL_law_129 : decode cL_law 129 = .ok (.invokestatic 52, 3) := by decide +kernel
theorem dL_law_132 : decode cL_law 132 = .ok (.aload_n 3, 1) := by decide +kernel
theorem dL_law_133 : decode cL_law 133 = .ok (.iload 6, 2) := by decide +kernel
theorem dL_law_135 : decode cL_law 135 = .ok (.iaload, 1) := by decide +kernel
theorem dL_law_136 : decode cL_law 136 = .ok (.iload 6, 2) := by decide +kernel
theorem dL_law_138 : decode cL_law 138 = .ok (.iconst 2, 1) := by decide +kernel
theorem dL_law_139 : decode cL_law 139 = .ok (.irem, 1) := by decide +kernel
theorem dL_law_140 : decode cL_law 140 = .ok (.ifCond .ne 7, 3) := by decide +kernel
theorem dL_law_143 : decode cL_law 143 = .ok (.iconst 1, 1) := by decide +kernel
theorem dL_law_144 : decode cL_law 144 = .ok (.goto 4, 3) := by decide +kernel
theorem dL_law_147 : decode cL_law 147 = .ok (.iconst 0, 1) := by decide +kernel
theorem dL_law_148 : decode cL_law 148 = .ok (.sipush 300, 3) := by decide +kernel
theorem dL_law_151 : decode cL_law 151 = .ok (.bipush 7, 2) := by decide +kernel
theorem dL_law_153 : decode cL_law 153 = .ok (.iload 9, 2) := by decide +kernel
theorem dL_law_155 : decode cL_law 155 = .ok (.bipush 7, 2) := by decide +kernel
theorem dL_law_157 : decode cL_law 157 = .ok (.ishr, 1) := by decide +kernel
theorem dL_law_158 : decode cL_law 158 = .ok (.iconst 3, 1) := by decide +kernel
theorem dL_law_159 : decode cL_law 159 = .ok (.invokestatic 52, 3) := by decide +kernel
theorem dL_law_162 : decode cL_law 162 = .ok (.imul, 1) := by decide +kernel
theorem dL_law_163 : decode cL_law 163 = .ok (.bipush 30, 2) := by decide +kernel
theorem dL_law_165 : decode cL_law 165 = .ok (.aload_n 2, 1) := by decide +kernel
theorem dL_law_166 : decode cL_law 166 = .ok (.iload 6, 2) := by decide +kernel
theorem dL_law_168 : decode cL_law 168 = .ok (.iaload, 1) := by decide +kernel
theorem dL_law_169 : decode cL_law 169 = .ok (.invokevirtual 55, 3) := by decide +kernel
theorem dL_law_172 : decode cL_law 172 = .ok (.iload 6, 2) := by decide +kernel
theorem dL_law_174 : decode cL_law 174 = .ok (.if_icmp .ne 7, 3) := by decide +kernel
theorem dL_law_177 : decode cL_law 177 = .ok (.iconst 1, 1) := by decide +kernel
theorem dL_law_178 : decode cL_law 178 = .ok (.goto 4, 3) := by decide +kernel
theorem dL_law_181 : decode cL_law 181 = .ok (.iconst 0, 1) := by decide +kernel
theorem dL_law_182 : decode cL_law 182 = .ok (.istore 11, 2) := by decide +kernel
theorem dL_law_184 : decode cL_law 184 = .ok (.iinc 6 1, 3) := by decide +kernel
theorem dL_law_187 : decode cL_law 187 = .ok (.goto 368, 3) := by decide +kernel
theorem dL_law_190 : decode cL_law 190 = .ok (.iload 10, 2) := by decide +kernel
theorem dL_law_192 : decode cL_law 192 = .ok (.iconst 3, 1) := by decide +kernel
theorem dL_law_193 : decode cL_law 193 = .ok (.if_icmp .ne 60, 3) := by decide +kernel
theorem dL_law_196 : decode cL_law 196 = .ok (.iload 9, 2) := by decide +kernel
theorem dL_law_198 : decode cL_law 198 = .ok (.iload 6, 2) := by decide +kernel
theorem dL_law_200 : decode cL_law 200 = .ok (.invokestatic 52, 3) := by decide +kernel
theorem dL_law_203 : decode cL_law 203 = .ok (.istore 12, 2) := by decide +kernel
theorem dL_law_205 : decode cL_law 205 = .ok (.aload 4, 2) := by decide +kernel
theorem dL_law_207 : decode cL_law 207 = .ok (.iload 12, 2) := by decide +kernel
theorem dL_law_209 : decode cL_law 209 = .ok (.iaload, 1) := by decide +kernel
theorem dL_law_210 : decode cL_law 210 = .ok (.bipush 10, 2) := by decide +kernel
theorem dL_law_212 : decode cL_law 212 = .ok (.if_icmp .ge 38, 3) := by decide +kernel
theorem dL_law_215 : decode cL_law 215 = .ok (.aload 4, 2) := by decide +kernel
theorem dL_law_217 : decode cL_law 217 = .ok (.iload 12, 2) := by decide +kernel
theorem dL_law_219 : decode cL_law 219 = .ok (.dup2, 1) := by decide +kernel
theorem dL_law_220 : decode cL_law 220 = .ok (.iaload, 1) := by decide +kernel
theorem dL_law_221 : decode cL_law 221 = .ok (.iconst 1, 1) := by decide +kernel
theorem dL_law_222 : decode cL_law 222 = .ok (.iadd, 1) := by decide +kernel
theorem dL_law_223 : decode cL_law 223 = .ok (.iastore, 1) := by decide +kernel
theorem dL_law_224 : decode cL_law 224 = .ok (.aload_n 1, 1) := by decide +kernel
theorem dL_law_225 : decode cL_law 225 = .ok (.iload 12, 2) := by decide +kernel
theorem dL_law_227 : decode cL_law 227 = .ok (.iload 9, 2) := by decide +kernel
theorem dL_law_229 : decode cL_law 229 = .ok (.iconst 4, 1) := by decide +kernel
theorem dL_law_230 : decode cL_law 230 = .ok (.ishr, 1) := by decide +kernel
theorem dL_law_231 : decode cL_law 231 = .ok (.sipush 200, 3) := by decide +kernel
theorem dL_law_234 : decode cL_law 234 = .ok (.invokestatic 52, 3) := by decide +kernel
theorem dL_law_237 : decode cL_law 237 = .ok (.iload 9, 2) := by decide +kernel
theorem dL_law_239 : decode cL_law 239 = .ok (.bipush 12, 2) := by decide +kernel
theorem dL_law_241 : decode cL_law 241 = .ok (.ishr, 1) := by decide +kernel
theorem dL_law_242 : decode cL_law 242 = .ok (.iconst 2, 1) := by decide +kernel
theorem dL_law_243 : decode cL_law 243 = .ok (.invokestatic 52, 3) := by decide +kernel
theorem dL_law_246 : decode cL_law 246 = .ok (.invokevirtual 59, 3) := by decide +kernel
theorem dL_law_249 : decode cL_law 249 = .ok (.pop, 1) := by decide +kernel
theorem dL_law_250 : decode cL_law 250 = .ok (.goto 305, 3) := by decide +kernel
theorem dL_law_253 : decode cL_law 253 = .ok (.iload 10, 2) := by decide +kernel
theorem dL_law_255 : decode cL_law 255 = .ok (.bipush 6, 2) := by decide +kernel
theorem dL_law_257 : decode cL_law 257 = .ok (.if_icmp .ge 33, 3) := by decide +kernel
theorem dL_law_260 : decode cL_law 260 = .ok (.aload_n 1, 1) := by decide +kernel
theorem dL_law_261 : decode cL_law 261 = .ok (.iload 9, 2) := by decide +kernel
theorem dL_law_263 : decode cL_law 263 = .ok (.sipush 200, 3) := by decide +kernel
theorem dL_law_266 : decode cL_law 266 = .ok (.invokestatic 52, 3) := by decide +kernel
theorem dL_law_269 : decode cL_law 269 = .ok (.iload 9, 2) := by decide +kernel
theorem dL_law_271 : decode cL_law 271 = .ok (.bipush 8, 2) := by decide +kernel
theorem dL_law_273 : decode cL_law 273 = .ok (.ishr, 1) := by decide +kernel
theorem dL_law_274 : decode cL_law 274 = .ok (.sipush 900, 3) := by decide +kernel
theorem dL_law_277 : decode cL_law 277 = .ok (.invokestatic 52, 3) := by decide +kernel
theorem dL_law_280 : decode cL_law 280 = .ok (.bipush 100, 2) := by decide +kernel
theorem dL_law_282 : decode cL_law 282 = .ok (.isub, 1) := by decide +kernel
theorem dL_law_283 : decode cL_law 283 = .ok (.invokevirtual 63, 3) := by decide +kernel
theorem dL_law_286 : decode cL_law 286 = .ok (.pop, 1) := by decide +kernel
theorem dL_law_287 : decode cL_law 287 = .ok (.goto 268, 3) := by decide +kernel
theorem dL_law_290 : decode cL_law 290 = .ok (.iload 10, 2) := by decide +kernel
theorem dL_law_292 : decode cL_law 292 = .ok (.bipush 6, 2) := by decide +kernel
theorem dL_law_294 : decode cL_law 294 = .ok (.if_icmp .ne 93, 3) := by decide +kernel
theorem dL_law_297 : decode cL_law 297 = .ok (.iload 7, 2) := by decide +kernel
theorem dL_law_299 : decode cL_law 299 = .ok (.bipush 30, 2) := by decide +kernel
theorem dL_law_301 : decode cL_law 301 = .ok (.if_icmp .ge 86, 3) := by decide +kernel
theorem dL_law_304 : decode cL_law 304 = .ok (.iload 9, 2) := by decide +kernel
theorem dL_law_306 : decode cL_law 306 = .ok (.iconst 2, 1) := by decide +kernel
theorem dL_law_307 : decode cL_law 307 = .ok (.invokestatic 52, 3) := by decide +kernel
theorem dL_law_310 : decode cL_law 310 = .ok (.istore 12, 2) := by decide +kernel
theorem dL_law_312 : decode cL_law 312 = .ok (.bipush 40, 2) := by decide +kernel
theorem dL_law_314 : decode cL_law 314 = .ok (.iload 12, 2) := by decide +kernel
theorem dL_law_316 : decode cL_law 316 = .ok (.imul, 1) := by decide +kernel
theorem dL_law_317 : decode cL_law 317 = .ok (.iload 7, 2) := by decide +kernel
theorem dL_law_319 : decode cL_law 319 = .ok (.iadd, 1) := by decide +kernel
theorem dL_law_320 : decode cL_law 320 = .ok (.istore 13, 2) := by decide +kernel
theorem dL_law_322 : decode cL_law 322 = .ok (.aload 5, 2) := by decide +kernel
theorem dL_law_324 : decode cL_law 324 = .ok (.iload 12, 2) := by decide +kernel
theorem dL_law_326 : decode cL_law 326 = .ok (.iaload, 1) := by decide +kernel
theorem dL_law_327 : decode cL_law 327 = .ok (.bipush 20, 2) := by decide +kernel
theorem dL_law_329 : decode cL_law 329 = .ok (.if_icmp .ge 55, 3) := by decide +kernel
theorem dL_law_332 : decode cL_law 332 = .ok (.aload 5, 2) := by decide +kernel
theorem dL_law_334 : decode cL_law 334 = .ok (.iload 12, 2) := by decide +kernel
theorem dL_law_336 : decode cL_law 336 = .ok (.dup2, 1) := by decide +kernel
theorem dL_law_337 : decode cL_law 337 = .ok (.iaload, 1) := by decide +kernel
theorem dL_law_338 : decode cL_law 338 = .ok (.iconst 1, 1) := by decide +kernel
theorem dL_law_339 : decode cL_law 339 = .ok (.iadd, 1) := by decide +kernel
theorem dL_law_340 : decode cL_law 340 = .ok (.iastore, 1) := by decide +kernel
theorem dL_law_341 : decode cL_law 341 = .ok (.aload_n 1, 1) := by decide +kernel
theorem dL_law_342 : decode cL_law 342 = .ok (.iload 12, 2) := by decide +kernel
theorem dL_law_344 : decode cL_law 344 = .ok (.iload 13, 2) := by decide +kernel
theorem dL_law_346 : decode cL_law 346 = .ok (.invokevirtual 66, 3) := by decide +kernel
theorem dL_law_349 : decode cL_law 349 = .ok (.aload 5, 2) := by decide +kernel
theorem dL_law_351 : decode cL_law 351 = .ok (.iload 12, 2) := by decide +kernel
theorem dL_law_353 : decode cL_law 353 = .ok (.iaload, 1) := by decide +kernel
theorem dL_law_354 : decode cL_law 354 = .ok (.if_icmp .ne 27, 3) := by decide +kernel
theorem dL_law_357 : decode cL_law 357 = .ok (.aload_n 1, 1) := by decide +kernel
theorem dL_law_358 : decode cL_law 358 = .ok (.iload 13, 2) := by decide +kernel
theorem dL_law_360 : decode cL_law 360 = .ok (.invokevirtual 69, 3) := by decide +kernel
theorem dL_law_363 : decode cL_law 363 = .ok (.ifCond .ne 18, 3) := by decide +kernel
theorem dL_law_366 : decode cL_law 366 = .ok (.aload_n 1, 1) := by decide +kernel
theorem dL_law_367 : decode cL_law 367 = .ok (.iload 13, 2) := by decide +kernel
theorem dL_law_369 : decode cL_law 369 = .ok (.invokevirtual 73, 3) := by decide +kernel
theorem dL_law_372 : decode cL_law 372 = .ok (.iload 13, 2) := by decide +kernel
theorem dL_law_374 : decode cL_law 374 = .ok (.if_icmp .le 7, 3) := by decide +kernel
theorem dL_law_377 : decode cL_law 377 = .ok (.iconst 1, 1) := by decide +kernel
theorem dL_law_378 : decode cL_law 378 = .ok (.goto 4, 3) := by decide +kernel
theorem dL_law_381 : decode cL_law 381 = .ok (.iconst 0, 1) := by decide +kernel
theorem dL_law_382 : decode cL_law 382 = .ok (.istore 11, 2) := by decide +kernel
theorem dL_law_384 : decode cL_law 384 = .ok (.goto 171, 3) := by decide +kernel
theorem dL_law_387 : decode cL_law 387 = .ok (.iload 10, 2) := by decide +kernel
theorem dL_law_389 : decode cL_law 389 = .ok (.bipush 9, 2) := by decide +kernel
theorem dL_law_391 : decode cL_law 391 = .ok (.if_icmp .ge 115, 3) := by decide +kernel
theorem dL_law_394 : decode cL_law 394 = .ok (.iload 9, 2) := by decide +kernel
theorem dL_law_396 : decode cL_law 396 = .ok (.iload 6, 2) := by decide +kernel
theorem dL_law_398 : decode cL_law 398 = .ok (.invokestatic 52, 3) := by decide +kernel
theorem dL_law_401 : decode cL_law 401 = .ok (.istore 12, 2) := by decide +kernel
theorem dL_law_403 : decode cL_law 403 = .ok (.iconst 1, 1) := by decide +kernel
theorem dL_law_404 : decode cL_law 404 = .ok (.iload 9, 2) := by decide +kernel
theorem dL_law_406 : decode cL_law 406 = .ok (.iconst 4, 1) := by decide +kernel
theorem dL_law_407 : decode cL_law 407 = .ok (.ishr, 1) := by decide +kernel
theorem dL_law_408 : decode cL_law 408 = .ok (.iconst 4, 1) := by decide +kernel
theorem dL_law_409 : decode cL_law 409 = .ok (.invokestatic 52, 3) := by decide +kernel
theorem dL_law_412 : decode cL_law 412 = .ok (.iadd, 1) := by decide +kernel
theorem dL_law_413 : decode cL_law 413 = .ok (.istore 13, 2) := by decide +kernel
theorem dL_law_415 : decode cL_law 415 = .ok (.aload_n 1, 1) := by decide +kernel
theorem dL_law_416 : decode cL_law 416 = .ok (.iload 12, 2) := by decide +kernel
theorem dL_law_418 : decode cL_law 418 = .ok (.aload_n 2, 1) := by decide +kernel
theorem dL_law_419 : decode cL_law 419 = .ok (.iload 12, 2) := by decide +kernel
theorem dL_law_421 : decode cL_law 421 = .ok (.iaload, 1) := by decide +kernel
theorem dL_law_422 : decode cL_law 422 = .ok (.iconst 1, 1) := by decide +kernel
theorem dL_law_423 : decode cL_law 423 = .ok (.isub, 1) := by decide +kernel
theorem dL_law_424 : decode cL_law 424 = .ok (.invokevirtual 42, 3) := by decide +kernel
theorem dL_law_427 : decode cL_law 427 = .ok (.istore 14, 2) := by decide +kernel
theorem dL_law_429 : decode cL_law 429 = .ok (.aload_n 1, 1) := by decide +kernel
theorem dL_law_430 : decode cL_law 430 = .ok (.iload 12, 2) := by decide +kernel
theorem dL_law_432 : decode cL_law 432 = .ok (.aload_n 2, 1) := by decide +kernel
theorem dL_law_433 : decode cL_law 433 = .ok (.iload 12, 2) := by decide +kernel
theorem dL_law_435 : decode cL_law 435 = .ok (.iaload, 1) := by decide +kernel
theorem dL_law_436 : decode cL_law 436 = .ok (.iconst 1, 1) := by decide +kernel
theorem dL_law_437 : decode cL_law 437 = .ok (.isub, 1) := by decide +kernel
theorem dL_law_438 : decode cL_law 438 = .ok (.invokevirtual 39, 3) := by decide +kernel
theorem dL_law_441 : decode cL_law 441 = .ok (.istore 15, 2) := by decide +kernel
theorem dL_law_443 : decode cL_law 443 = .ok (.iload 15, 2) := by decide +kernel
theorem dL_law_445 : decode cL_law 445 = .ok (.iload 13, 2) := by decide +kernel
theorem dL_law_447 : decode cL_law 447 = .ok (.if_icmp .lt 56, 3) := by decide +kernel
theorem dL_law_450 : decode cL_law 450 = .ok (.iload 15, 2) := by decide +kernel
theorem dL_law_452 : decode cL_law 452 = .ok (.aload_n 3, 1) := by decide +kernel
theorem dL_law_453 : decode cL_law 453 = .ok (.iload 12, 2) := by decide +kernel
theorem dL_law_455 : decode cL_law 455 = .ok (.iaload, 1) := by decide +kernel
theorem dL_law_456 : decode cL_law 456 = .ok (.if_icmp .gt 47, 3) := by decide +kernel
theorem dL_law_459 : decode cL_law 459 = .ok (.aload_n 1, 1) := by decide +kernel
theorem dL_law_460 : decode cL_law 460 = .ok (.iload 12, 2) := by decide +kernel
theorem dL_law_462 : decode cL_law 462 = .ok (.iload 9, 2) := by decide +kernel
theorem dL_law_464 : decode cL_law 464 = .ok (.bipush 7, 2) := by decide +kernel
theorem dL_law_466 : decode cL_law 466 = .ok (.ishr, 1) := by decide +kernel
theorem dL_law_467 : decode cL_law 467 = .ok (.iload 14, 2) := by decide +kernel
theorem dL_law_469 : decode cL_law 469 = .ok (.iconst 1, 1) := by decide +kernel
theorem dL_law_470 : decode cL_law 470 = .ok (.iadd, 1) := by decide +kernel
theorem dL_law_471 : decode cL_law 471 = .ok (.invokestatic 52, 3) := by decide +kernel
theorem dL_law_474 : decode cL_law 474 = .ok (.iload 13, 2) := by decide +kernel
theorem dL_law_476 : decode cL_law 476 = .ok (.iload 15, 2) := by decide +kernel
theorem dL_law_478 : decode cL_law 478 = .ok (.aload_n 2, 1) := by decide +kernel
theorem dL_law_479 : decode cL_law 479 = .ok (.iload 12, 2) := by decide +kernel
theorem dL_law_481 : decode cL_law 481 = .ok (.iaload, 1) := by decide +kernel
theorem dL_law_482 : decode cL_law 482 = .ok (.invokestatic 76, 3) := by decide +kernel
theorem dL_law_485 : decode cL_law 485 = .ok (.istore 11, 2) := by decide +kernel
theorem dL_law_487 : decode cL_law 487 = .ok (.aload_n 3, 1) := by decide +kernel
theorem dL_law_488 : decode cL_law 488 = .ok (.iload 12, 2) := by decide +kernel
theorem dL_law_490 : decode cL_law 490 = .ok (.aload_n 1, 1) := by decide +kernel
theorem dL_law_491 : decode cL_law 491 = .ok (.iload 12, 2) := by decide +kernel
theorem dL_law_493 : decode cL_law 493 = .ok (.aload_n 2, 1) := by decide +kernel
theorem dL_law_494 : decode cL_law 494 = .ok (.iload 12, 2) := by decide +kernel
theorem dL_law_496 : decode cL_law 496 = .ok (.iaload, 1) := by decide +kernel
theorem dL_law_497 : decode cL_law 497 = .ok (.iconst 1, 1) := by decide +kernel
theorem dL_law_498 : decode cL_law 498 = .ok (.isub, 1) := by decide +kernel
theorem dL_law_499 : decode cL_law 499 = .ok (.invokevirtual 39, 3) := by decide +kernel
theorem dL_law_502 : decode cL_law 502 = .ok (.iastore, 1) := by decide +kernel
theorem dL_law_503 : decode cL_law 503 = .ok (.goto 52, 3) := by decide +kernel
theorem dL_law_506 : decode cL_law 506 = .ok (.iload 9, 2) := by decide +kernel
theorem dL_law_508 : decode cL_law 508 = .ok (.bipush 60, 2) := by decide +kernel
theorem dL_law_510 : decode cL_law 510 = .ok (.invokestatic 52, 3) := by decide +kernel
theorem dL_law_513 : decode cL_law 513 = .ok (.istore 12, 2) := by decide +kernel
theorem dL_law_515 : decode cL_law 515 = .ok (.aload_n 1, 1) := by decide +kernel
theorem dL_law_516 : decode cL_law 516 = .ok (.aload_n 2, 1) := by decide +kernel
theorem dL_law_517 : decode cL_law 517 = .ok (.iload 12, 2) := by decide +kernel
theorem dL_law_519 : decode cL_law 519 = .ok (.iload 9, 2) := by decide +kernel
theorem dL_law_521 : decode cL_law 521 = .ok (.bipush 6, 2) := by decide +kernel
theorem dL_law_523 : decode cL_law 523 = .ok (.ishr, 1) := by decide +kernel
theorem dL_law_524 : decode cL_law 524 = .ok (.bipush 40, 2) := by decide +kernel
theorem dL_law_526 : decode cL_law 526 = .ok (.invokestatic 52, 3) := by decide +kernel
theorem dL_law_529 : decode cL_law 529 = .ok (.invokestatic 80, 3) := by decide +kernel
theorem dL_law_532 : decode cL_law 532 = .ok (.istore 11, 2) := by decide +kernel
theorem dL_law_534 : decode cL_law 534 = .ok (.iconst 0, 1) := by decide +kernel
theorem dL_law_535 : decode cL_law 535 = .ok (.istore 13, 2) := by decide +kernel
theorem dL_law_537 : decode cL_law 537 = .ok (.iload 13, 2) := by decide +kernel
theorem dL_law_539 : decode cL_law 539 = .ok (.iload 6, 2) := by decide +kernel
theorem dL_law_541 : decode cL_law 541 = .ok (.if_icmp .ge 14, 3) := by decide +kernel
theorem dL_law_544 : decode cL_law 544 = .ok (.aload_n 3, 1) := by decide +kernel
theorem dL_law_545 : decode cL_law 545 = .ok (.iload 13, 2) := by decide +kernel
theorem dL_law_547 : decode cL_law 547 = .ok (.iconst 0, 1) := by decide +kernel
theorem dL_law_548 : decode cL_law 548 = .ok (.iastore, 1) := by decide +kernel
theorem dL_law_549 : decode cL_law 549 = .ok (.iinc 13 1, 3) := by decide +kernel
theorem dL_law_552 : decode cL_law 552 = .ok (.goto (-15), 3) := by decide +kernel
theorem dL_law_555 : decode cL_law 555 = .ok (.iload 11, 2) := by decide +kernel
theorem dL_law_557 : decode cL_law 557 = .ok (.ifCond .eq 34, 3) := by decide +kernel
theorem dL_law_560 : decode cL_law 560 = .ok (.aload_n 1, 1) := by decide +kernel
theorem dL_law_561 : decode cL_law 561 = .ok (.aload_n 2, 1) := by decide +kernel
theorem dL_law_562 : decode cL_law 562 = .ok (.iload 9, 2) := by decide +kernel
theorem dL_law_564 : decode cL_law 564 = .ok (.iconst 3, 1) := by decide +kernel
theorem dL_law_565 : decode cL_law 565 = .ok (.ishr, 1) := by decide +kernel
theorem dL_law_566 : decode cL_law 566 = .ok (.bipush 60, 2) := by decide +kernel
theorem dL_law_568 : decode cL_law 568 = .ok (.invokestatic 52, 3) := by decide +kernel
theorem dL_law_571 : decode cL_law 571 = .ok (.bipush 60, 2) := by decide +kernel
theorem dL_law_573 : decode cL_law 573 = .ok (.iload 9, 2) := by decide +kernel
theorem dL_law_575 : decode cL_law 575 = .ok (.bipush 9, 2) := by decide +kernel
theorem dL_law_577 : decode cL_law 577 = .ok (.ishr, 1) := by decide +kernel
theorem dL_law_578 : decode cL_law 578 = .ok (.sipush 300, 3) := by decide +kernel
theorem dL_law_581 : decode cL_law 581 = .ok (.invokestatic 52, 3) := by decide +kernel
theorem dL_law_584 : decode cL_law 584 = .ok (.iadd, 1) := by decide +kernel
theorem dL_law_585 : decode cL_law 585 = .ok (.invokestatic 84, 3) := by decide +kernel
theorem dL_law_588 : decode cL_law 588 = .ok (.ifCond .ne 5, 3) := by decide +kernel
theorem dL_law_591 : decode cL_law 591 = .ok (.iconst 0, 1) := by decide +kernel
theorem dL_law_592 : decode cL_law 592 = .ok (.ireturn, 1) := by decide +kernel
theorem dL_law_593 : decode cL_law 593 = .ok (.iinc 7 1, 3) := by decide +kernel
theorem dL_law_596 : decode cL_law 596 = .ok (.goto (-561), 3) := by decide +kernel
theorem dL_law_599 : decode cL_law 599 = .ok (.iconst 1, 1) := by decide +kernel
theorem dL_law_600 : decode cL_law 600 = .ok (.ireturn, 1) := by decide +kernel
end
section
/-! OWN LAYER: the launch's facts, contracts that leave the heap as it is, contracts that change it, contracts that throw. -/
abbrev ET : Type := Launch × va_G × (Nat → ClassId) × Nat × Nat × Nat
abbrev eL (E : ET) : Launch := E.1
abbrev eD (E : ET) : va_G := E.2.1
abbrev eA (E : ET) : Nat → ClassId := E.2.2.1
abbrev eB (E : ET) : Nat := E.2.2.2.1
abbrev eF (E : ET) : Nat := E.2.2.2.2.1
abbrev eM (E : ET) : Nat := E.2.2.2.2.2
abbrev tyL (E : ET) : List (ClassId × FieldType) := [(eA E 0, .int), (eA E 0, .int), (eA E 2, .object "java/lang/Object")]
abbrev fr (E : ET) : Nat → Prop := fun q => eB E ≤ q
abbrev OB (E : ET) (ci : Nat) (fs : List Value) (a : Nat) (H : Heap) : Prop := va_P (eD E) vwCl [(a, .inr (ci, fs))] H
abbrev IA (E : ET) (n : Nat) (f : Nat → Int32) (a : Nat) (H : Heap) : Prop := va_P (eD E) vwCl [(a, .inl (eA E 0, n, .inl f))] H
abbrev QA (E : ET) (n : Nat) (f : Nat → Option Nat) (a : Nat) (H : Heap) : Prop := va_P (eD E) vwCl [(a, .inl (eA E 2, n, .inr (.inr (.inr (.inr f)))))] H
theorem pk1 {E : ET} {a : Nat} {x : va_E} {H H1 : Heap} (h : va_P (eD E) vwCl [(a, x)] H) (hq : H1[a]? = H[a]?) : va_P (eD E) vwCl [(a, x)] H1 := h.kept (fun k q hk => by
  cases k with
  | zero => cases hk; exact hq
  | succ k => cases hk)
theorem plt {E : ET} {a : Nat} {x : va_E} {H : Heap} (h : va_P (eD E) vwCl [(a, x)] H) : a < H.size := (h 0 _ rfl).lt
def strL : List (Nat × String) := [(32, "no such town"), (178, "an argument is out of range"), (55, "the town has this holiday, or no room for it"), (72, "no room for another fixing"), (186, "no such party"), (88, "no room for another trade"), (188, "no such trade"), (124, "the rest of the trade is less than that"), (129, "the trade was handed over too often"), (193, "no such period")]
abbrev xI : String := "java/lang/IndexOutOfBoundsException"
abbrev xA : String := "java/lang/IllegalArgumentException"
abbrev xS : String := "java/lang/IllegalStateException"
abbrev xO : String := "java/lang/Object"
def casL : List (String × String) := [(RX2, xO), (RX3, xO), (xI, xI), (xA, xA), (xS, xS)]
def ncL : List (String × String) := [(xA, xI), (xS, xI), (xI, xA), (xS, xA), (xI, xS), (xA, xS)]
theorem nwC_moved {C T : String} {u U : State} (hvm : u.vm.Alike U.vm) (h : va_Nw (.castable C T) u) : va_Nw (.castable C T) U := va_tabs rfl (rfl : (u.setVm U.vm).vm = U.vm) (by rw [Cond.castable_setVm hvm]; exact h)
theorem nwD_moved {y : MethodName} {u U : State} (hvm : u.vm.Alike U.vm) (h : va_Nw (.declares y) u) : va_Nw (.declares y) U := va_tabs rfl (rfl : (u.setVm U.vm).vm = U.vm) (by rw [Cond.declares_setVm hvm]; exact h)
def decL : List MethodName := [⟨"java/lang/RuntimeException", "<init>", "(Ljava/lang/String;)V"⟩, ⟨"java/lang/Exception", "<init>", "(Ljava/lang/String;)V"⟩, ⟨"java/lang/Throwable", "<init>", "(Ljava/lang/String;)V"⟩]
/-- the empty array of the JDK: nothing is known of it but its class and that it has no element -/
def E0 (E : ET) (a : Nat) (H : Heap) : Prop := ∃ cell : Cell, H[a]? = some cell ∧ cell.cls = eA E 2 ∧ (∀ k, cell.vm ≠ .statics k) ∧ cell.slots.size.toInt32 = 0
theorem E0.pk {E : ET} {a : Nat} {H H1 : Heap} (h : E0 E a H) (hq : H1[a]? = H[a]?) : E0 E a H1 := by
  obtain ⟨c, h1, h2⟩ := h
  exact ⟨c, hq.trans h1, h2⟩
/-- an array of references, or that one -/
def QB (E : ET) (n : Nat) (f : Nat → Option Nat) (a : Nat) (H : Heap) : Prop := QA E n f a H ∨ (n = 0 ∧ E0 E a H)
theorem QB.of {E : ET} {n a : Nat} {f : Nat → Option Nat} {H : Heap} (h : QA E n f a H) : QB E n f a H := Or.inl h
theorem QB.qa {E : ET} {n a : Nat} {f : Nat → Option Nat} {H : Heap} (h : QB E n f a H) (hn : 0 < n) : QA E n f a H := h.resolve_right (fun q => by omega)
theorem QB.pk {E : ET} {n a : Nat} {f : Nat → Option Nat} {H H1 : Heap} (h : QB E n f a H) (hq : H1[a]? = H[a]?) : QB E n f a H1 := h.imp (fun g => pk1 g hq) (fun g => ⟨g.1, g.2.pk hq⟩)
theorem QB.lt {E : ET} {n a : Nat} {f : Nat → Option Nat} {H : Heap} (h : QB E n f a H) : a < H.size := by
  rcases h with h | ⟨-, c, h, -⟩
  · exact plt h
  · exact (Array.getElem?_eq_some_iff.mp h).1
/-- what every method is told: the classes as the tables have them, the statics of the JDK that are read, the texts, below the cell eB all that was there before the law -/
def EV (E : ET) (U : State) (H : Heap) : Prop :=
  va_K (eD E) vwCl (tyL E) U ∧ eB E ≤ H.size ∧ eF E < eB E ∧ E0 E (eF E) H ∧ va_Z "java/util/ArrayList" "DEFAULTCAPACITY_EMPTY_ELEMENTDATA" "[Ljava/lang/Object;" (.ref (eF E)) (fr E) U H ∧ vx_Zq Bundle.tN "UNASSIGNED_STACK" Bundle.steD (fr E) U H ∧ vx_Zq Bundle.tN "SUPPRESSED_SENTINEL" Bundle.listD (fr E) U H ∧ (eL E).stackTraces = false ∧ (∀ q ∈ strL, ∃ a, vk_R RX4 q.1 q.2 a U) ∧ (∀ q ∈ casL, va_Nw (.castable q.1 q.2) U) ∧ (∀ q ∈ ncL, va_Nc q.1 q.2 U) ∧ va_Mi "[Ljava/lang/Object;" (eM E) U ∧ va_Dc U ∧ va_AO xO U ∧ (∀ y ∈ decL, va_Nw (.declares y) U)
theorem EV.alike {E : ET} {u U : State} {H : Heap} (hvm : u.vm.Alike U.vm) (hs : ∀ q ∈ strL, ∃ a, vk_R RX4 q.1 q.2 a U) (h : EV E u H) : EV E U H := by
  obtain ⟨h1, h2, h3, h4, h5, h6, h7, h8, h9, h10, h11, h12, h13, h14, h15⟩ := h
  exact ⟨va_K.moved hvm h1, h2, h3, h4, va_Z.moved hvm h5, vx_Zq.moved hvm h6, vx_Zq.moved hvm h7, h8, hs, fun q hq => nwC_moved hvm (h10 q hq), fun q hq => va_Nc.moved hvm (h11 q hq), va_Mi.moved hvm h12, va_Dc.moved hvm h13, va_AO.moved hvm h14, fun y hy => nwD_moved hvm (h15 y hy)⟩
theorem EV.warm {E : ET} {u U : State} {H : Heap} (hW : u.WarmedH U.vm) (h : EV E u H) : EV E U H := h.alike hW.alike (fun q hq => by
  obtain ⟨a, ha⟩ := h.2.2.2.2.2.2.2.2.1 q hq
  exact ⟨a, vk_R.warm hW ha⟩)
theorem EV.same {E : ET} {u U : State} {H : Heap} (hv : U.vm = u.vm) (h : EV E u H) : EV E U H := h.alike (by rw [hv]; exact Vm.Alike.refl _) (fun q hq => by
  obtain ⟨a, ha⟩ := h.2.2.2.2.2.2.2.2.1 q hq
  exact ⟨a, vk_R.same hv ha⟩)
theorem EV.kept {E : ET} {U : State} {H H1 : Heap} (h : EV E U H) (hs : H.size ≤ H1.size) (hq : ∀ q : Nat, q < eB E → H1[q]? = H[q]?) : EV E U H1 := by
  have hz : ∀ a : Nat, a < H.size → ¬ fr E a → H1[a]? = H[a]? := fun a _ ha => hq a (Nat.lt_of_not_le ha)
  obtain ⟨h1, h2, h3, h4, h5, h6, h7, h8⟩ := h
  exact ⟨h1, Nat.le_trans h2 hs, h3, h4.pk (hq _ h3), va_Z.kept h5 hz, vx_Zq.kept h6 hz, vx_Zq.kept h7 hz, h8⟩
theorem EV.K {E : ET} {U : State} {H : Heap} (h : EV E U H) : va_K (eD E) vwCl (tyL E) U := h.1
abbrev rmk (k mc ms : Nat) : Room := { frames := k, cells := mc, slots := ms, locals := 40 * k }
abbrev wm (y : MethodName) (b : ByteArray) (mL : Nat) (ret : Option FieldType) : List Cond := Cond.code y b mL ret :: Tw
def PC (E : ET) (av : List Value) (H : Heap) : Array Value → State → Prop := fun a U => a = av.toArray ∧ U.heap = H ∧ EV E U U.heap
theorem PC.blind {E : ET} {av : List Value} {H : Heap} : FrameBlind (PC E av H) := fun a U g mk q => ⟨q.1, q.2.1, EV.same (u := U) (U := U.calling g mk a) rfl q.2.2⟩
def PQ (v : Option Value) : Array Value → State → Outcome → State → Prop := fun _ st o t => o = .returned v ∧ t.heap = st.heap
def CQ (E : ET) (out : Option Value → Heap → Prop) : Array Value → State → Outcome → State → Prop := fun _ st o t => ∃ v, o = .returned v ∧ out v t.heap ∧ st.heap.size ≤ t.heap.size ∧ ∀ q : Nat, q < eB E → t.heap[q]? = st.heap[q]?
def XQ (E : ET) (bad : String → Prop) : String → State → State → Prop := fun X st t => bad X ∧ st.heap.size ≤ t.heap.size ∧ ∀ q : Nat, q < st.heap.size → t.heap[q]? = st.heap[q]?
/-- a method that leaves the heap as it is and answers v -/
abbrev PCon (E : ET) (y : MethodName) (b : ByteArray) (mL : Nat) (ret : Option FieldType) (k : Nat) (av : List Value) (H : Heap) (v : Option Value) : Prop := Met (eL E) y (wm y b mL ret) (rmk k 0 0) (PC E av H) (PQ v) 0 0 (fun _ => False)
/-- a method that changes the heap -/
abbrev Con (E : ET) (y : MethodName) (b : ByteArray) (mL : Nat) (ret : Option FieldType) (k mc ms : Nat) (av : List Value) (H : Heap) (out : Option Value → Heap → Prop) : Prop := Met (eL E) y (wm y b mL ret) (rmk k mc ms) (PC E av H) (CQ E out) mc ms (fr E)
/-- a method that may throw; what is there before it stays when it throws -/
abbrev XCon (E : ET) (y : MethodName) (b : ByteArray) (mL : Nat) (ret : Option FieldType) (k mc ms : Nat) (av : List Value) (H : Heap) (out : Option Value → Heap → Prop) (bad : String → Prop) : Prop := vx_Met (eL E) y (wm y b mL ret) (rmk k mc ms) (PC E av H) (CQ E out) (XQ E bad) mc ms (fr E)
theorem tw_hts {y : MethodName} {b : ByteArray} {mL : Nat} {ret : Option FieldType} {args : Array Value} {s : State} (h : (allAtoms (wm y b mL ret)).before args s = true) : ∀ w ∈ Tw, w.before args s = true := fun w hw => atoms_spec (ws := wm y b mL ret) h w (List.mem_cons_of_mem _ hw)
theorem PCon.of {E : ET} {y : MethodName} {b : ByteArray} {mL : Nat} {ret : Option FieldType} {k : Nat} {av : List Value} {H : Heap} {v : Option Value} {C : String} (hC : y.cls = C) (hy : plainName y.cls = true) (hn : (lg_sl av).length ≤ mL)
    (body : ∀ (p : Program) (e : Env) (s : State) (m : MethodId) (below : List Frame) (meth : Method) (c : Code) (ls : Array Slot), p.tables.exec = Jvm.exec → c.code = b → meth.sig.returnType = ret → meth.locks = false → c.maxLocals = mL → s.vm.findClass C = some m.cls → (∀ w ∈ Tw, w.before av.toArray s = true) → EV E s H → s.heap = H → lv_has ls mL (lv_args 0 av) →
      W p (eL E) e (rmk k 0 0) s m av.toArray below meth c H [] 0 0 (MQ below (PQ v) av.toArray s 0 0 (fun _ => False)) (F0 m 0 ls [])) : PCon E y b mL ret k av H v := by
  refine Met.ofW (cc := b) (maxL := mL) (ret := ret) hy rfl ?_
  intro p e s m args below meth c s₁ B hml hv
  obtain ⟨rfl, rfl, hE⟩ := hv
  subst hC
  have hl := lv_entry av hn
  rw [lg_entry_eq]
  exact body p e s m below meth c _ B.exec B.bytes B.returns B.notSynchronized hml (findClass_of_methodNamed B.named) (tw_hts B.pre) hE rfl hl
theorem Con.of {E : ET} {y : MethodName} {b : ByteArray} {mL : Nat} {ret : Option FieldType} {k mc ms : Nat} {av : List Value} {H : Heap} {out : Option Value → Heap → Prop} {C : String} (hC : y.cls = C) (hy : plainName y.cls = true) (hn : (lg_sl av).length ≤ mL)
    (body : ∀ (p : Program) (e : Env) (s : State) (m : MethodId) (below : List Frame) (meth : Method) (c : Code) (ls : Array Slot), p.tables.exec = Jvm.exec → c.code = b → meth.sig.returnType = ret → meth.locks = false → c.maxLocals = mL → s.vm.findClass C = some m.cls → (∀ w ∈ Tw, w.before av.toArray s = true) → meth.name = y.name → EV E s H → s.heap = H → va_S (fr E) s.heap H [] → lv_has ls mL (lv_args 0 av) →
      W p (eL E) e (rmk k mc ms) s m av.toArray below meth c H [] 0 0 (MQ below (CQ E out) av.toArray s mc ms (fr E)) (F0 m 0 ls [])) : Con E y b mL ret k mc ms av H out := by
  refine Met.ofW (cc := b) (maxL := mL) (ret := ret) hy rfl ?_
  intro p e s m args below meth c s₁ B hml hv
  obtain ⟨rfl, rfl, hE⟩ := hv
  subst hC
  have hl := lv_entry av hn
  rw [lg_entry_eq]
  exact body p e s m below meth c _ B.exec B.bytes B.returns B.notSynchronized hml (findClass_of_methodNamed B.named) (tw_hts B.pre) (name_of_methodNamed B.named B.method).1 hE rfl va_S.rf hl
theorem XCon.of {E : ET} {y : MethodName} {b : ByteArray} {mL : Nat} {ret : Option FieldType} {k mc ms : Nat} {av : List Value} {H : Heap} {out : Option Value → Heap → Prop} {bad : String → Prop} {C : String} (hC : y.cls = C) (hy : plainName y.cls = true) (hn : (lg_sl av).length ≤ mL)
    (body : ∀ (p : Program) (e : Env) (s : State) (m : MethodId) (below : List Frame) (meth : Method) (c : Code) (ls : Array Slot), p.tables.exec = Jvm.exec → c.code = b → meth.sig.returnType = ret → meth.locks = false → c.maxLocals = mL → s.vm.findClass C = some m.cls → (∀ w ∈ Tw, w.before av.toArray s = true) → (∀ x ∈ c.exceptionTable.toList, False) → EV E s H → s.heap = H → va_S (fr E) s.heap H [] → lv_has ls mL (lv_args 0 av) →
      W p (eL E) e (rmk k mc ms) s m av.toArray below meth c H [] 0 0 (vx_MQ below (CQ E out) (XQ E bad) av.toArray s mc ms (fr E)) (F0 m 0 ls [])) : XCon E y b mL ret k mc ms av H out bad := by
  refine vx_ofW (cc := b) (maxL := mL) (ret := ret) hy rfl ?_
  intro p e s m args below meth c s₁ B hml hxt hv
  obtain ⟨rfl, rfl, hE⟩ := hv
  subst hC
  have hl := lv_entry av hn
  rw [lg_entry_eq]
  exact body p e s m below meth c _ B.exec B.bytes B.returns B.notSynchronized hml (findClass_of_methodNamed B.named) (tw_hts B.pre) hxt hE rfl va_S.rf hl
end
section
section STP
variable {p : Program} {l : Launch} {e : Env} {R : Room} {s : State} {m : MethodId} {args : Array Value} {below : List Frame} {meth : Method} {c : Code} {H H0 : Heap} {locs : List Loc} {cells slots : Nat} {Q : State → Prop}
variable {cc : ByteArray} {pc nL : Nat} {ls : Array Slot} {rest : List Value} {E : ET} {own : String}
/-! ends of methods that leave the heap -/
theorem pI {v w : Int32} (hx : p.tables.exec = Jvm.exec) (hb : c.code = cc) (hr : meth.sig.returnType = some .int) (hlk : meth.locks = false) (hH : s.heap = H) (he : v = w) (hdg : decode cc pc = .ok (.ireturn, 1)) : W p l e R s m args below meth c H [] 0 0 (MQ below (PQ (some (.int w))) args s 0 0 (fun _ => False)) (F0 m pc ls [.int v]) := by
  subst he
  exact W.iret hx hb hr (fun t ht hW => ⟨rfl, by rw [ht, hH]⟩) (fun q h => by cases h) hdg hlk
theorem nrwZ {b : Bool} : narrow .boolean (.int (if b then 1 else 0)) = .int (if b then 1 else 0) := by cases b <;> rfl
theorem pZ {v : Int32} {b : Bool} (hx : p.tables.exec = Jvm.exec) (hb : c.code = cc) (hr : meth.sig.returnType = some .boolean) (hlk : meth.locks = false) (hH : s.heap = H) (he : v = if b then 1 else 0) (hdg : decode cc pc = .ok (.ireturn, 1)) : W p l e R s m args below meth c H [] 0 0 (MQ below (PQ (some (.int (if b then 1 else 0)))) args s 0 0 (fun _ => False)) (F0 m pc ls [.int v]) := by
  subst he
  exact W.zret hx hb hr nrwZ (fun t ht hW => ⟨rfl, by rw [ht, hH]⟩) (fun q h => by cases h) hdg hlk
theorem pL {v w : Int64} (hx : p.tables.exec = Jvm.exec) (hb : c.code = cc) (hr : meth.sig.returnType = some .long) (hlk : meth.locks = false) (hH : s.heap = H) (he : v = w) (hdg : decode cc pc = .ok (.lreturn, 1)) : W p l e R s m args below meth c H [] 0 0 (MQ below (PQ (some (.long w))) args s 0 0 (fun _ => False)) (F0 m pc ls [.long v]) := by
  subst he
  exact W.lret hx hb hr (fun t ht hW => ⟨rfl, by rw [ht, hH]⟩) (fun q h => by cases h) hdg hlk
theorem pA {v w : Value} {rt : FieldType} (hx : p.tables.exec = Jvm.exec) (hb : c.code = cc) (hr : meth.sig.returnType = some rt) (hrt : (∃ n, rt = .object n) ∨ ∃ t, rt = .array t) (hv : v = .null ∨ ∃ a, v = .ref a) (hlk : meth.locks = false) (hH : s.heap = H) (he : v = w) (hdg : decode cc pc = .ok (.areturn, 1)) : W p l e R s m args below meth c H [] 0 0 (MQ below (PQ (some w)) args s 0 0 (fun _ => False)) (F0 m pc ls [v]) := by
  subst he
  exact W.aret hx hb hr hrt hv (fun t ht hW => ⟨rfl, by rw [ht, hH]⟩) (fun q h => by cases h) hdg hlk
theorem pU (hx : p.tables.exec = Jvm.exec) (hb : c.code = cc) (hr : meth.sig.returnType = none) (hlk : meth.locks = false) (hH : s.heap = H) (hdg : decode cc pc = .ok (.return_, 1)) : W p l e R s m args below meth c H [] 0 0 (MQ below (PQ none) args s 0 0 (fun _ => False)) (F0 m pc ls []) :=
  W.vret hx hb hr (fun t ht hW => ⟨rfl, by rw [ht, hH]⟩) (fun q h => by cases h) hdg hlk
/-! ends of methods that change it -/
theorem CQ.of {out : Option Value → Heap → Prop} {v : Option Value} {t : State} {a : Array Value} (hB : eB E ≤ s.heap.size) (hS : va_S (fr E) s.heap H locs) (ho : out v H) (ht : t.heap = H) : CQ E out a s (.returned v) t := by
  subst ht
  exact ⟨v, rfl, ho, hS.1, fun q hq => hS.2.1 q (Nat.lt_of_lt_of_le hq hB) (Nat.not_le_of_lt hq)⟩
theorem cI {out : Option Value → Heap → Prop} {v : Int32} {mc ms : Nat} (hx : p.tables.exec = Jvm.exec) (hb : c.code = cc) (hr : meth.sig.returnType = some .int) (hlk : meth.locks = false) (hB : eB E ≤ s.heap.size) (hS : va_S (fr E) s.heap H locs) (hc : cells ≤ mc) (hs : slots ≤ ms) (ho : out (some (.int v)) H) (hdg : decode cc pc = .ok (.ireturn, 1)) : W p l e R s m args below meth c H locs cells slots (MQ below (CQ E out) args s mc ms (fr E)) (F0 m pc ls [.int v]) :=
  W.widen hc hs (W.iret hx hb hr (fun t ht hW => CQ.of hB hS ho ht) hS.2.2 hdg hlk)
theorem cZ {out : Option Value → Heap → Prop} {v : Int32} {mc ms : Nat} (hx : p.tables.exec = Jvm.exec) (hb : c.code = cc) (hr : meth.sig.returnType = some .boolean) (hlk : meth.locks = false) (hB : eB E ≤ s.heap.size) (hS : va_S (fr E) s.heap H locs) (hc : cells ≤ mc) (hs : slots ≤ ms) (hv : v = 0 ∨ v = 1) (ho : out (some (.int v)) H) (hdg : decode cc pc = .ok (.ireturn, 1)) : W p l e R s m args below meth c H locs cells slots (MQ below (CQ E out) args s mc ms (fr E)) (F0 m pc ls [.int v]) :=
  W.widen hc hs (W.zret hx hb hr (by rcases hv with rfl | rfl <;> rfl) (fun t ht hW => CQ.of hB hS ho ht) hS.2.2 hdg hlk)
theorem cL {out : Option Value → Heap → Prop} {v : Int64} {mc ms : Nat} (hx : p.tables.exec = Jvm.exec) (hb : c.code = cc) (hr : meth.sig.returnType = some .long) (hlk : meth.locks = false) (hB : eB E ≤ s.heap.size) (hS : va_S (fr E) s.heap H locs) (hc : cells ≤ mc) (hs : slots ≤ ms) (ho : out (some (.long v)) H) (hdg : decode cc pc = .ok (.lreturn, 1)) : W p l e R s m args below meth c H locs cells slots (MQ below (CQ E out) args s mc ms (fr E)) (F0 m pc ls [.long v]) :=
  W.widen hc hs (W.lret hx hb hr (fun t ht hW => CQ.of hB hS ho ht) hS.2.2 hdg hlk)
theorem cR {out : Option Value → Heap → Prop} {v : Value} {rt : FieldType} {mc ms : Nat} (hx : p.tables.exec = Jvm.exec) (hb : c.code = cc) (hr : meth.sig.returnType = some rt) (hrt : (∃ n, rt = .object n) ∨ ∃ t, rt = .array t) (hv : v = .null ∨ ∃ a, v = .ref a) (hlk : meth.locks = false) (hB : eB E ≤ s.heap.size) (hS : va_S (fr E) s.heap H locs) (hc : cells ≤ mc) (hs : slots ≤ ms) (ho : out (some v) H) (hdg : decode cc pc = .ok (.areturn, 1)) : W p l e R s m args below meth c H locs cells slots (MQ below (CQ E out) args s mc ms (fr E)) (F0 m pc ls [v]) :=
  W.widen hc hs (W.aret hx hb hr hrt hv (fun t ht hW => CQ.of hB hS ho ht) hS.2.2 hdg hlk)
theorem cU {out : Option Value → Heap → Prop} {mc ms : Nat} (hx : p.tables.exec = Jvm.exec) (hb : c.code = cc) (hr : meth.sig.returnType = none) (hlk : meth.locks = false) (hB : eB E ≤ s.heap.size) (hS : va_S (fr E) s.heap H locs) (hc : cells ≤ mc) (hs : slots ≤ ms) (ho : out none H) (hdg : decode cc pc = .ok (.return_, 1)) : W p l e R s m args below meth c H locs cells slots (MQ below (CQ E out) args s mc ms (fr E)) (F0 m pc ls []) :=
  W.widen hc hs (W.vret hx hb hr (fun t ht hW => CQ.of hB hS ho ht) hS.2.2 hdg hlk)
/-! getfield -/
def LK (own : String) (idx : Nat) (C : String) (T : u_T) (N ci k : Nat) (ref : String) : Prop := (∀ w ∈ u_ws C T N, w ∈ Tw) ∧ vwCl[ci]? = some (C, T, N) ∧ k < N ∧ Cond.fieldLink own idx ref (T k).2.1 (T k).2.2.1 ∈ Tw ∧ ((T k).1 = ref ∨ Cond.sameField ref (T k).1 (T k).2.1 (T k).2.2.1 ∈ Tw)
theorem LK.same {idx : Nat} {C : String} {T : u_T} {N ci k : Nat} {ref : String} (h : LK own idx C T N ci k ref) (hts : ∀ w ∈ Tw, w.before args s = true) : ∀ x, s.fieldFound? (T k).1 (T k).2.1 (T k).2.2.1 = some x → s.fieldFound? ref (T k).2.1 (T k).2.2.1 = some x := by
  intro x hx
  rcases h.2.2.2.2 with h | h
  · rw [← h]; exact hx
  · exact u_same (hts _ h) x hx
theorem gf {idx : Nat} {C : String} {T : u_T} {N ci k : Nat} {ref : String} {fs : List Value} {a : Nat} {v : Value} (hx : p.tables.exec = Jvm.exec) (hb : c.code = cc) (hts : ∀ w ∈ Tw, w.before args s = true) (hown : s.vm.findClass own = some m.cls) (hE : EV E s H) (hlk : LK own idx C T N ci k ref) (hO : OB E ci fs a H) (hv : fs[k]? = some v) (hdg : decode cc pc = .ok (.getfield idx, 3))
    (kk : W p l e R s m args below meth c H locs cells slots Q (F0 m (pc + 3) ls (v :: rest))) : W p l e R s m args below meth c H locs cells slots Q (F0 m pc ls (.ref a :: rest)) :=
  va_get hx hb hts hlk.1 hown hE.K hO 0 rfl hlk.2.1 k hlk.2.2.1 (hts _ hlk.2.2.2.1) (hlk.same hts) hv hdg kk
/-! calls of methods that leave the heap -/
theorem wm_good {y : MethodName} {b : ByteArray} {mL : Nat} {ret : Option FieldType} (h : Cond.code y b mL ret ∈ Tw) : GoodIn Tw (wm y b mL ret) := fun w hw => by
  rcases List.mem_cons.mp hw with rfl | hw
  · exact ⟨h, good_of_word (tw_good h)⟩
  · exact ⟨hw, good_of_word (tw_good hw)⟩
def okc (y : MethodName) (n : Nat) : Prop := y.cls ≠ "java/lang/invoke/MethodHandle" ∧ y.cls ≠ "java/lang/invoke/VarHandle" ∧ (parseMethodDescriptor y.desc).map (fun d => d.parameters.length) = some n
def kwV (own : String) (idx : Nat) (y : MethodName) (b : ByteArray) (mL : Nat) (ret : Option FieldType) (n : Nat) : Prop := Cond.methodLink own idx y ∈ Tw ∧ Cond.instanceMethod y ∈ Tw ∧ Cond.selects y.cls y y ∈ Tw ∧ Cond.initialized y.cls ∈ Tw ∧ Cond.code y b mL ret ∈ Tw ∧ okc y n ∧ mL ≤ 21
def kwS (own : String) (idx : Nat) (y : MethodName) (b : ByteArray) (mL : Nat) (ret : Option FieldType) (n : Nat) : Prop := Cond.methodLink own idx y ∈ Tw ∧ Cond.static y ∈ Tw ∧ Cond.initialized y.cls ∈ Tw ∧ Cond.code y b mL ret ∈ Tw ∧ okc y n ∧ mL ≤ 21
def kwI (own : String) (idx : Nat) (y : MethodName) (b : ByteArray) (mL : Nat) (n : Nat) : Prop := Cond.methodLink own idx y ∈ Tw ∧ Cond.instanceMethod y ∈ Tw ∧ Cond.initialized y.cls ∈ Tw ∧ Cond.code y b mL none ∈ Tw ∧ okc y n ∧ mL ≤ 21 ∧ y.name = "<init>"
theorem good1 {w : Cond} (h : w ∈ Tw) : w ∈ Tw ∧ ((w.onTables && w.keeps) = true ∨ ∃ ty, w = .arrayClass ty) := ⟨h, good_of_word (tw_good h)⟩
theorem cwV9 {k k' mc ms mc' ms' : Nat} {idx : Nat} {y : MethodName} {b : ByteArray} {mL : Nat} {ret : Option FieldType} {n : Nat} (hts : ∀ w ∈ Tw, w.before args s = true) (h : kwV own idx y b mL ret n) (hk : k' + 1 ≤ k) : CallW (rmk k mc ms) s args own y.cls idx y b mL ret (wm y b mL ret) (rmk k' mc' ms') mc' ms' n := by
  obtain ⟨h1, h2, h3, h4, h5, h6, h7⟩ := h
  refine cwV n hts (fun w hw => ?_) rfl rfl rfl ⟨rfl, h6⟩ ⟨hk, ?_⟩
  · simp only [wsV, List.cons_append, List.nil_append] at hw
    rcases List.mem_cons.mp hw with rfl | hw
    · exact good1 h1
    rcases List.mem_cons.mp hw with rfl | hw
    · exact good1 h2
    rcases List.mem_cons.mp hw with rfl | hw
    · exact good1 h3
    rcases List.mem_cons.mp hw with rfl | hw
    · exact good1 h4
    · exact wm_good h5 w hw
  · show 8 + (mL + 11) + 40 * k' ≤ 40 * k
    omega
theorem cwS9 {k k' mc ms mc' ms' : Nat} {idx : Nat} {y : MethodName} {b : ByteArray} {mL : Nat} {ret : Option FieldType} {n : Nat} (hts : ∀ w ∈ Tw, w.before args s = true) (h : kwS own idx y b mL ret n) (hk : k' + 1 ≤ k) : CallB (rmk k mc ms) s args own idx y b mL ret (wm y b mL ret) (rmk k' mc' ms') mc' ms' n ∧ (Cond.static y).before args s = true := by
  obtain ⟨h1, h2, h4, h5, h6, h7⟩ := h
  refine va_cwS n hts (fun w hw => ?_) rfl rfl rfl h6 ⟨hk, ?_⟩
  · simp only [va_wsS, List.cons_append, List.nil_append] at hw
    rcases List.mem_cons.mp hw with rfl | hw
    · exact good1 h1
    rcases List.mem_cons.mp hw with rfl | hw
    · exact good1 h2
    rcases List.mem_cons.mp hw with rfl | hw
    · exact good1 h4
    · exact wm_good h5 w hw
  · show 8 + (mL + 11) + 40 * k' ≤ 40 * k
    omega
theorem cwI9 {k k' mc ms mc' ms' : Nat} {idx : Nat} {y : MethodName} {b : ByteArray} {mL : Nat} {n : Nat} (hts : ∀ w ∈ Tw, w.before args s = true) (h : kwI own idx y b mL n) (hk : k' + 1 ≤ k) : CallB (rmk k mc ms) s args own idx y b mL none (wm y b mL none) (rmk k' mc' ms') mc' ms' n ∧ y.name = "<init>" ∧ (Cond.instanceMethod y).before args s = true := by
  obtain ⟨h1, h2, h4, h5, h6, h7, h8⟩ := h
  refine cwI n hts (wm_good h5) rfl rfl rfl (hts _ h4) (hts _ h1) (hts _ h2) h8 h6 ⟨hk, ?_⟩
  show 8 + (mL + 11) + 40 * k' ≤ 40 * k
  omega
theorem recv9 {ci : Nat} {fs : List Value} {a : Nat} {C : String} {T : u_T} {N : Nat} (hE : EV E s H) (hO : OB E ci fs a H) (hc : vwCl[ci]? = some (C, T, N)) : ∃ cell : Cell, H[a]? = some cell ∧ cell.vm.isStatics = false ∧ s.vm.findClass C = some cell.cls := va_recv (q := (C, T, N)) hE.K hO hc (q0 := 0) rfl
/-- behind a call that left the heap -/
theorem pk_go {g : JFrame} {v : Value} {a : Array Value} {pc : Nat} {st0 : List Value} (hr : va_Run p l e R s m args below meth c H locs cells slots 0 0 (F0 m pc ls st0) rest (PQ (some v) a) (fun _ => False)) (kk : W p l e R s m args below meth c H locs cells slots Q (F0 m (pc + 3) ls (v :: rest))) : W p l e R s m args below meth c H locs cells slots Q (F0 m pc ls st0) := by
  intro T hT X
  obtain ⟨w, st₀, t, T', L, e0, X', hL, e1, e2, hq, hgo⟩ := hr T hT X
  obtain ⟨q1, q2⟩ := hq
  have hw : w = some v := by injection q1
  subst hw
  have hL0 : L = [] := by
    cases L with
    | nil => rfl
    | cons x xs => exact absurd (hL x List.mem_cons_self) (fun h => h)
  subst hL0
  rw [List.append_nil] at X'
  obtain ⟨t2, a1, b1⟩ := kk T' (by rw [e1, q2, e0]) X'
  exact ⟨t2, hgo t2 a1, b1⟩
theorem pk_goU {g : JFrame} {a : Array Value} {pc : Nat} {st0 : List Value} (hr : va_Run p l e R s m args below meth c H locs cells slots 0 0 (F0 m pc ls st0) rest (PQ none a) (fun _ => False)) (kk : W p l e R s m args below meth c H locs cells slots Q (F0 m (pc + 3) ls rest)) : W p l e R s m args below meth c H locs cells slots Q (F0 m pc ls st0) := by
  intro T hT X
  obtain ⟨w, st₀, t, T', L, e0, X', hL, e1, e2, hq, hgo⟩ := hr T hT X
  obtain ⟨q1, q2⟩ := hq
  have hw : w = none := by injection q1
  subst hw
  have hL0 : L = [] := by
    cases L with
    | nil => rfl
    | cons x xs => exact absurd (hL x List.mem_cons_self) (fun h => h)
  subst hL0
  rw [List.append_nil] at X'
  obtain ⟨t2, a1, b1⟩ := kk T' (by rw [e1, q2, e0]) X'
  exact ⟨t2, hgo t2 a1, b1⟩
end STP
end
section
section STP2
variable {p : Program} {e : Env} {R : Room} {s : State} {m : MethodId} {args : Array Value} {below : List Frame} {meth : Method} {c : Code} {H H0 : Heap} {locs : List Loc} {cells slots : Nat} {Q : State → Prop}
variable {cc : ByteArray} {pc nL : Nat} {ls : Array Slot} {rest st0 : List Value} {E : ET} {own : String}
variable {idx k k' mc ms n mL a ci N : Nat} {y : MethodName} {b : ByteArray} {ret : Option FieldType} {As : List Value} {v : Value} {fs : List Value} {T : u_T}
/-- a virtual call of a method that leaves the heap -/
theorem pV (hx : p.tables.exec = Jvm.exec) (hb : c.code = cc) (hml : c.maxLocals = nL) (hts : ∀ w ∈ Tw, w.before args s = true) (hown : s.vm.findClass own = some m.cls) (hE : EV E s H) (kw : kwV own idx y b mL ret n) (hM : PCon E y b mL ret k' (.ref a :: As) H (some v)) (hO : OB E ci fs a H) (hc : vwCl[ci]? = some (y.cls, T, N)) (hk : k' + 1 ≤ k) (hn : As.length = n) (hl : ls.size = nL) (hst : st0 = As.reverse ++ .ref a :: rest) (hW : (rest.map fun v => v.category).sum ≤ 8) (hcs : cells ≤ mc) (hss : slots ≤ ms) (hdg : decode cc pc = .ok (.invokevirtual idx, 3))
    (kk : W p (eL E) e (rmk k mc ms) s m args below meth c H locs cells slots Q (F0 m (pc + 3) ls (v :: rest))) : W p (eL E) e (rmk k mc ms) s m args below meth c H locs cells slots Q (F0 m pc ls st0) := by
  refine pk_go (g := F0 m pc ls st0) (va_runV (As := As) (rest := rest) ⟨hx, hb, hml, hown, hts⟩ hM (cwV9 hts kw hk) ⟨PC.blind, recv9 hE hO hc, fun U hU hW => ⟨rfl, hU, by rw [hU]; exact hE.warm hW⟩⟩ rfl hn hl hst (lv_room hW) hdg ⟨hcs, hss⟩) kk
theorem pVU (hx : p.tables.exec = Jvm.exec) (hb : c.code = cc) (hml : c.maxLocals = nL) (hts : ∀ w ∈ Tw, w.before args s = true) (hown : s.vm.findClass own = some m.cls) (hE : EV E s H) (kw : kwV own idx y b mL ret n) (hM : PCon E y b mL ret k' (.ref a :: As) H none) (hO : OB E ci fs a H) (hc : vwCl[ci]? = some (y.cls, T, N)) (hk : k' + 1 ≤ k) (hn : As.length = n) (hl : ls.size = nL) (hst : st0 = As.reverse ++ .ref a :: rest) (hW : (rest.map fun v => v.category).sum ≤ 8) (hcs : cells ≤ mc) (hss : slots ≤ ms) (hdg : decode cc pc = .ok (.invokevirtual idx, 3))
    (kk : W p (eL E) e (rmk k mc ms) s m args below meth c H locs cells slots Q (F0 m (pc + 3) ls rest)) : W p (eL E) e (rmk k mc ms) s m args below meth c H locs cells slots Q (F0 m pc ls st0) := by
  refine pk_goU (g := F0 m pc ls st0) (va_runV (As := As) (rest := rest) ⟨hx, hb, hml, hown, hts⟩ hM (cwV9 hts kw hk) ⟨PC.blind, recv9 hE hO hc, fun U hU hW => ⟨rfl, hU, by rw [hU]; exact hE.warm hW⟩⟩ rfl hn hl hst (lv_room hW) hdg ⟨hcs, hss⟩) kk
/-- a static call of a method that leaves the heap -/
theorem pS (hx : p.tables.exec = Jvm.exec) (hb : c.code = cc) (hml : c.maxLocals = nL) (hts : ∀ w ∈ Tw, w.before args s = true) (hown : s.vm.findClass own = some m.cls) (hE : EV E s H) (kw : kwS own idx y b mL ret n) (hM : PCon E y b mL ret k' As H (some v)) (hk : k' + 1 ≤ k) (hn : As.length = n) (hl : ls.size = nL) (hst : st0 = As.reverse ++ rest) (hW : (rest.map fun v => v.category).sum ≤ 8) (hcs : cells ≤ mc) (hss : slots ≤ ms) (hdg : decode cc pc = .ok (.invokestatic idx, 3))
    (kk : W p (eL E) e (rmk k mc ms) s m args below meth c H locs cells slots Q (F0 m (pc + 3) ls (v :: rest))) : W p (eL E) e (rmk k mc ms) s m args below meth c H locs cells slots Q (F0 m pc ls st0) := by
  refine pk_go (g := F0 m pc ls st0) (va_runS (As := As) (rest := rest) ⟨hx, hb, hml, hown, hts⟩ hM (cwS9 hts kw hk) ⟨PC.blind, fun U hU hW => ⟨rfl, hU, by rw [hU]; exact hE.warm hW⟩⟩ rfl hn hl hst (lv_room hW) hdg ⟨hcs, hss⟩) kk
/-! arrays, casts -/
theorem aI {f : Nat → Int32} {j : Nat} {i v : Int32} (hx : p.tables.exec = Jvm.exec) (hb : c.code = cc) (hE : EV E s H) (hA : IA E n f a H) (hi : i = nI j) (hj : j < n) (hn : n < 2 ^ 31) (hv : f j = v) (hdg : decode cc pc = .ok (.iaload, 1))
    (kk : W p (eL E) e R s m args below meth c H locs cells slots Q (F0 m (pc + 1) ls (.int v :: rest))) : W p (eL E) e R s m args below meth c H locs cells slots Q (F0 m pc ls (.int i :: .ref a :: rest)) := by
  subst hi hv
  refine va_iald hx hb hE.K hA 0 0 rfl rfl (vp_in_nI hj hn) hdg ?_
  rw [nI_clamp (by omega)]
  exact kk
theorem aQ {f : Nat → Option Nat} {j q : Nat} {i : Int32} (hx : p.tables.exec = Jvm.exec) (hb : c.code = cc) (hE : EV E s H) (hA : QA E n f a H) (hi : i = nI j) (hj : j < n) (hn : n < 2 ^ 31) (hv : f j = some q) (hdg : decode cc pc = .ok (.aaload, 1))
    (kk : W p (eL E) e R s m args below meth c H locs cells slots Q (F0 m (pc + 1) ls (.ref q :: rest))) : W p (eL E) e R s m args below meth c H locs cells slots Q (F0 m pc ls (.int i :: .ref a :: rest)) := by
  subst hi
  refine va_aldq hx hb hE.K hA 0 2 rfl rfl (vp_in_nI hj hn) hdg ?_
  rw [nI_clamp (by omega), hv]
  exact kk
theorem aLI {f : Nat → Int32} (hx : p.tables.exec = Jvm.exec) (hb : c.code = cc) (hE : EV E s H) (hA : IA E n f a H) (hdg : decode cc pc = .ok (.arraylength, 1))
    (kk : W p (eL E) e R s m args below meth c H locs cells slots Q (F0 m (pc + 1) ls (.int (nI n) :: rest))) : W p (eL E) e R s m args below meth c H locs cells slots Q (F0 m pc ls (.ref a :: rest)) := va_alen hx hb hE.K hA 0 0 rfl rfl rfl hdg kk
theorem aLQ {f : Nat → Option Nat} (hx : p.tables.exec = Jvm.exec) (hb : c.code = cc) (hE : EV E s H) (hA : QA E n f a H) (hdg : decode cc pc = .ok (.arraylength, 1))
    (kk : W p (eL E) e R s m args below meth c H locs cells slots Q (F0 m (pc + 1) ls (.int (nI n) :: rest))) : W p (eL E) e R s m args below meth c H locs cells slots Q (F0 m pc ls (.ref a :: rest)) := va_alen hx hb hE.K hA 0 2 rfl rfl rfl hdg kk
theorem aLB {f : Nat → Option Nat} (hx : p.tables.exec = Jvm.exec) (hb : c.code = cc) (hE : EV E s H) (hA : QB E n f a H) (hdg : decode cc pc = .ok (.arraylength, 1))
    (kk : W p (eL E) e R s m args below meth c H locs cells slots Q (F0 m (pc + 1) ls (.int (nI n) :: rest))) : W p (eL E) e R s m args below meth c H locs cells slots Q (F0 m pc ls (.ref a :: rest)) := by
  rcases hA with hA | ⟨h0, cell, h1, h2, h3, h4⟩
  · exact aLQ hx hb hE hA hdg kk
  · subst h0
    obtain ⟨kA, comp, k1, k2, -⟩ := (hE.K.2 2 _ rfl).2
    exact W.alen (n := nI 0) (ty := .object "java/lang/Object") hx hb h1 ⟨h3, kA, by rw [h2]; exact k1, comp, k2⟩ (by rw [h4]; rfl) rfl rfl hdg kk
theorem cst {idx : Nat} {fs : List Value} {C : String} {T : u_T} {N ci a : Nat} (hx : p.tables.exec = Jvm.exec) (hb : c.code = cc) (hts : ∀ w ∈ Tw, w.before args s = true) (hown : s.vm.findClass own = some m.cls) (hE : EV E s H) (hw : Cond.classLink own idx C ∈ Tw) (hO : OB E ci fs a H) (hc : vwCl[ci]? = some (C, T, N)) (hdg : decode cc pc = .ok (.checkcast idx, 3))
    (kk : W p (eL E) e R s m args below meth c H locs cells slots Q (F0 m (pc + 3) ls (.ref a :: rest))) : W p (eL E) e R s m args below meth c H locs cells slots Q (F0 m pc ls (.ref a :: rest)) :=
  va_castS hx hb hown (hts _ hw) (hE.K.1 ci _ hc).2 (recv9 hE hO hc) hdg kk
end STP2
end
section
theorem iwJx4a65c : ∀ w ∈ u_ws RJx4a65c TJx4a65c 3, w ∈ Tw := List.forall_mem_cons.mpr ⟨qw1_64, List.forall_mem_cons.mpr ⟨qw1_60, List.forall_mem_cons.mpr ⟨qw1_62, fun _ h => absurd h List.not_mem_nil⟩⟩⟩
theorem iwX0 : ∀ w ∈ u_ws RX0 TX0 2, w ∈ Tw := List.forall_mem_cons.mpr ⟨qw1_73, List.forall_mem_cons.mpr ⟨qw1_75, fun _ h => absurd h List.not_mem_nil⟩⟩
theorem iwX1 : ∀ w ∈ u_ws RX1 TX1 1, w ∈ Tw := List.forall_mem_cons.mpr ⟨qw1_68, fun _ h => absurd h List.not_mem_nil⟩
theorem iwX2 : ∀ w ∈ u_ws RX2 TX2 2, w ∈ Tw := List.forall_mem_cons.mpr ⟨qw2_7, List.forall_mem_cons.mpr ⟨qw2_9, fun _ h => absurd h List.not_mem_nil⟩⟩
theorem iwX3 : ∀ w ∈ u_ws RX3 TX3 13, w ∈ Tw := List.forall_mem_cons.mpr ⟨qw2_143, List.forall_mem_cons.mpr ⟨qw2_145, List.forall_mem_cons.mpr ⟨qw2_147, List.forall_mem_cons.mpr ⟨qw2_149, List.forall_mem_cons.mpr ⟨qw2_151, List.forall_mem_cons.mpr ⟨qw2_153, List.forall_mem_cons.mpr ⟨qw2_155, List.forall_mem_cons.mpr ⟨qw2_157, List.forall_mem_cons.mpr ⟨qw2_159, List.forall_mem_cons.mpr ⟨qw2_161, List.forall_mem_cons.mpr ⟨qw2_163, List.forall_mem_cons.mpr ⟨qw2_165, List.forall_mem_cons.mpr ⟨qw2_167, fun _ h => absurd h List.not_mem_nil⟩⟩⟩⟩⟩⟩⟩⟩⟩⟩⟩⟩⟩
theorem iwX4 : ∀ w ∈ u_ws RX4 TX4 3, w ∈ Tw := List.forall_mem_cons.mpr ⟨qw1_85, List.forall_mem_cons.mpr ⟨qw1_87, List.forall_mem_cons.mpr ⟨qw1_89, fun _ h => absurd h List.not_mem_nil⟩⟩⟩
theorem kwL_45 : kwI RL 45 yX4_init cX4_init 1 0 := ⟨qw1_23, qw1_24, qw1_1, qw1_25, ⟨by decide, by decide, by decide +kernel⟩, Nat.le_of_ble_eq_true rfl, rfl⟩
theorem kwX4_9 : kwI RX4 9 yX0_init cX0_init 1 0 := ⟨qw1_31, qw1_32, qw1_2, qw1_33, ⟨by decide, by decide, by decide +kernel⟩, Nat.le_of_ble_eq_true rfl, rfl⟩
theorem kwX0_11 : kwI RX0 11 yX1_init cX1_init 1 0 := ⟨qw1_37, qw1_38, qw1_3, qw1_39, ⟨by decide, by decide, by decide +kernel⟩, Nat.le_of_ble_eq_true rfl, rfl⟩
theorem kwX1_11 : kwI RX1 11 yJx4a65c_init_da8c8 cJx4a65c_init_da8c8 1 0 := ⟨qw1_43, qw1_44, qw1_6, qw1_45, ⟨by decide, by decide, by decide +kernel⟩, Nat.le_of_ble_eq_true rfl, rfl⟩
theorem kwJx4a65c_1 : kwI RJx4a65c 1 yJxc12de_init_da8c8 cJxc12de_init_da8c8 1 0 := ⟨qw1_46, qw1_47, qw1_5, qw1_48, ⟨by decide, by decide, by decide +kernel⟩, Nat.le_of_ble_eq_true rfl, rfl⟩
theorem kwJxc12de_1 : kwI RJxc12de 1 yJxa1e45_init_da8c8 cJxa1e45_init_da8c8 1 0 := ⟨qw1_49, qw1_50, qw1_4, qw1_51, ⟨by decide, by decide, by decide +kernel⟩, Nat.le_of_ble_eq_true rfl, rfl⟩
theorem lkJx4a65c_9 : LK RJx4a65c 9 RJx4a65c TJx4a65c 3 0 1 "java/util/ArrayList" := ⟨iwJx4a65c, rfl, Nat.le_of_ble_eq_true rfl, qw1_55, Or.inl rfl⟩
theorem lkJx4a65c_48 : LK RJx4a65c 48 RJx4a65c TJx4a65c 3 0 2 "java/util/ArrayList" := ⟨iwJx4a65c, rfl, Nat.le_of_ble_eq_true rfl, qw1_56, Or.inl rfl⟩
theorem lkJxc12de_7 : LK RJxc12de 7 RJx4a65c TJx4a65c 3 0 0 "java/util/AbstractList" := ⟨iwJx4a65c, rfl, Nat.le_of_ble_eq_true rfl, qw1_57, Or.inl rfl⟩
theorem lkJx4a65c_63 : LK RJx4a65c 63 RJx4a65c TJx4a65c 3 0 0 "java/util/ArrayList" := ⟨iwJx4a65c, rfl, Nat.le_of_ble_eq_true rfl, qw1_58, Or.inr qw1_59⟩
theorem lkX1_12 : LK RX1 12 RX1 TX1 1 2 0 "Resetline$Diary" := ⟨iwX1, rfl, Nat.le_of_ble_eq_true rfl, qw1_67, Or.inl rfl⟩
theorem lkX0_12 : LK RX0 12 RX0 TX0 2 1 0 "Resetline$Calendar" := ⟨iwX0, rfl, Nat.le_of_ble_eq_true rfl, qw1_71, Or.inl rfl⟩
theorem lkX0_18 : LK RX0 18 RX0 TX0 2 1 1 "Resetline$Calendar" := ⟨iwX0, rfl, Nat.le_of_ble_eq_true rfl, qw1_72, Or.inl rfl⟩
theorem kwX4_18 : kwI RX4 18 yX1_init cX1_init 1 0 := ⟨qw1_79, qw1_38, qw1_3, qw1_39, ⟨by decide, by decide, by decide +kernel⟩, Nat.le_of_ble_eq_true rfl, rfl⟩
theorem kwX4_25 : kwI RX4 25 yJx4a65c_init_da8c8 cJx4a65c_init_da8c8 1 0 := ⟨qw1_81, qw1_44, qw1_6, qw1_45, ⟨by decide, by decide, by decide +kernel⟩, Nat.le_of_ble_eq_true rfl, rfl⟩
theorem lkX4_10 : LK RX4 10 RX4 TX4 3 5 0 "Resetline" := ⟨iwX4, rfl, Nat.le_of_ble_eq_true rfl, qw1_82, Or.inl rfl⟩
theorem lkX4_19 : LK RX4 19 RX4 TX4 3 5 1 "Resetline" := ⟨iwX4, rfl, Nat.le_of_ble_eq_true rfl, qw1_83, Or.inl rfl⟩
theorem lkX4_26 : LK RX4 26 RX4 TX4 3 5 2 "Resetline" := ⟨iwX4, rfl, Nat.le_of_ble_eq_true rfl, qw1_84, Or.inl rfl⟩
theorem kwL_66 : kwV RL 66 yX4_holiday cX4_holiday 4 (some FieldType.int) 2 := ⟨qw1_92, qw1_93, qw1_94, qw1_1, qw1_95, ⟨by decide, by decide, by decide +kernel⟩, Nat.le_of_ble_eq_true rfl⟩
theorem kwX4_37 : kwS RX4 37 yX4_checkRange cX4_checkRange 3 (none : Option FieldType) 3 := ⟨qw1_164, qw1_165, qw1_1, qw1_166, ⟨by decide, by decide, by decide +kernel⟩, Nat.le_of_ble_eq_true rfl⟩
theorem kwX4_41 : kwV RX4 41 yX0_holidaysOf cX0_holidaysOf 2 (some (FieldType.object "Resetline$Diary")) 1 := ⟨qw1_183, qw1_184, qw1_185, qw1_2, qw1_186, ⟨by decide, by decide, by decide +kernel⟩, Nat.le_of_ble_eq_true rfl⟩
theorem kwX4_45 : kwV RX4 45 yX1_count cX1_count 1 (some FieldType.int) 0 := ⟨qw1_187, qw1_188, qw1_189, qw1_3, qw1_190, ⟨by decide, by decide, by decide +kernel⟩, Nat.le_of_ble_eq_true rfl⟩
theorem kwX1_18 : kwV RX1 18 yJx4a65c_size_8abf5 cJx4a65c_size_8abf5 1 (some FieldType.int) 0 := ⟨qw1_191, qw1_192, qw1_193, qw1_6, qw1_194, ⟨by decide, by decide, by decide +kernel⟩, Nat.le_of_ble_eq_true rfl⟩
theorem kwX4_49 : kwV RX4 49 yX1_has cX1_has 2 (some FieldType.boolean) 1 := ⟨qw1_195, qw1_196, qw1_197, qw1_3, qw1_198, ⟨by decide, by decide, by decide +kernel⟩, Nat.le_of_ble_eq_true rfl⟩
theorem kwX1_22 : kwV RX1 22 yX1_entryOf cX1_entryOf 4 (some (FieldType.object "Resetline$Entry")) 1 := ⟨qw1_199, qw1_201, qp1, qw1_3, qw1_202, ⟨by decide, by decide, by decide +kernel⟩, Nat.le_of_ble_eq_true rfl⟩
theorem kwX1_41 : kwV RX1 41 yJx4a65c_get_915e3 cJx4a65c_get_915e3 2 (some (FieldType.object "java/lang/Object")) 1 := ⟨qw1_203, qw1_204, qw1_205, qw1_6, qw1_206, ⟨by decide, by decide, by decide +kernel⟩, Nat.le_of_ble_eq_true rfl⟩
theorem kwJx4a65c_118 : kwS RJx4a65c 118 yJ15_checkIndex_7cf53 cJ15_checkIndex_7cf53 2 (some FieldType.int) 2 := ⟨qw1_207, qw1_208, qw1_15, qw1_209, ⟨by decide, by decide, by decide +kernel⟩, Nat.le_of_ble_eq_true rfl⟩
theorem kwJ15_105 : kwS RJ15 105 yJ3_checkIndex_8e157 cJ3_checkIndex_8e157 3 (some FieldType.int) 3 := ⟨qw1_210, qw1_211, qw1_16, qw1_212, ⟨by decide, by decide, by decide +kernel⟩, Nat.le_of_ble_eq_true rfl⟩
theorem kwJx4a65c_123 : kwV RJx4a65c 123 yJx4a65c_elementData_915e3 cJx4a65c_elementData_915e3 2 (some (FieldType.object "java/lang/Object")) 1 := ⟨qw1_213, qw1_214, qw1_215, qw1_6, qw1_216, ⟨by decide, by decide, by decide +kernel⟩, Nat.le_of_ble_eq_true rfl⟩
theorem kwX4_58 : kwV RX4 58 yX1_add cX1_add 3 (none : Option FieldType) 2 := ⟨qw1_234, qw1_235, qw1_236, qw1_3, qw1_237, ⟨by decide, by decide, by decide +kernel⟩, Nat.le_of_ble_eq_true rfl⟩
theorem kwX1_28 : kwI RX1 28 yX2_init cX2_init 3 2 := ⟨qw1_239, qw2_0, qw1_20, qw2_1, ⟨by decide, by decide, by decide +kernel⟩, Nat.le_of_ble_eq_true rfl, rfl⟩
theorem lkX2_7 : LK RX2 7 RX2 TX2 2 3 0 "Resetline$Entry" := ⟨iwX2, rfl, Nat.le_of_ble_eq_true rfl, qw2_3, Or.inl rfl⟩
theorem lkX1_45 : LK RX1 45 RX2 TX2 2 3 0 "Resetline$Entry" := ⟨iwX2, rfl, Nat.le_of_ble_eq_true rfl, qw2_4, Or.inl rfl⟩
theorem lkX2_13 : LK RX2 13 RX2 TX2 2 3 1 "Resetline$Entry" := ⟨iwX2, rfl, Nat.le_of_ble_eq_true rfl, qw2_5, Or.inl rfl⟩
theorem lkX1_37 : LK RX1 37 RX2 TX2 2 3 1 "Resetline$Entry" := ⟨iwX2, rfl, Nat.le_of_ble_eq_true rfl, qw2_6, Or.inl rfl⟩
theorem kwX1_31 : kwV RX1 31 yJx4a65c_add_9ea2d cJx4a65c_add_9ea2d 2 (some FieldType.boolean) 1 := ⟨qw2_12, qw2_13, qw2_14, qw1_6, qw2_15, ⟨by decide, by decide, by decide +kernel⟩, Nat.le_of_ble_eq_true rfl⟩
theorem kwJx4a65c_131 : kwV RJx4a65c 131 yJx4a65c_add_72be8 cJx4a65c_add_72be8 4 (none : Option FieldType) 3 := ⟨qw2_16, qw2_18, qp2, qw1_6, qw2_19, ⟨by decide, by decide, by decide +kernel⟩, Nat.le_of_ble_eq_true rfl⟩
theorem kwJx4a65c_129 : kwV RJx4a65c 129 yJx4a65c_grow_d5877 cJx4a65c_grow_d5877 1 (some (FieldType.array (FieldType.object "java/lang/Object"))) 0 := ⟨qw2_20, qw2_22, qp3, qw1_6, qw2_23, ⟨by decide, by decide, by decide +kernel⟩, Nat.le_of_ble_eq_true rfl⟩
theorem kwJx4a65c_69 : kwV RJx4a65c 69 yJx4a65c_grow_92f84 cJx4a65c_grow_92f84 4 (some (FieldType.array (FieldType.object "java/lang/Object"))) 1 := ⟨qw2_24, qw2_26, qp4, qw1_6, qw2_27, ⟨by decide, by decide, by decide +kernel⟩, Nat.le_of_ble_eq_true rfl⟩
theorem kwJx4a65c_73 : kwS RJx4a65c 73 yJ8_newLength_cabcc cJ8_newLength_cabcc 4 (some FieldType.int) 3 := ⟨qw2_28, qw2_29, qw1_17, qw2_30, ⟨by decide, by decide, by decide +kernel⟩, Nat.le_of_ble_eq_true rfl⟩
theorem kwJ8_194 : kwS RJ8 194 yJ9_max_7cf53 cJ9_max_7cf53 2 (some FieldType.int) 2 := ⟨qw2_31, qw2_32, qw1_14, qw2_33, ⟨by decide, by decide, by decide +kernel⟩, Nat.le_of_ble_eq_true rfl⟩
theorem kwJ8_201 : kwS RJ8 201 yJ8_hugeLength_7cf53 cJ8_hugeLength_7cf53 3 (some FieldType.int) 2 := ⟨qw2_35, qw2_36, qw1_17, qw2_37, ⟨by decide, by decide, by decide +kernel⟩, Nat.le_of_ble_eq_true rfl⟩
theorem kwJx4a65c_66 : kwS RJx4a65c 66 yJ7_copyOf_1904c cJ7_copyOf_1904c 2 (some (FieldType.array (FieldType.object "java/lang/Object"))) 2 := ⟨qw2_38, qw2_39, qw1_18, qw2_40, ⟨by decide, by decide, by decide +kernel⟩, Nat.le_of_ble_eq_true rfl⟩
theorem kwJ7_300 : kwS RJ7 300 yJ7_copyOf_6403c cJ7_copyOf_6403c 4 (some (FieldType.array (FieldType.object "java/lang/Object"))) 3 := ⟨qw2_54, qw2_55, qw1_18, qw2_56, ⟨by decide, by decide, by decide +kernel⟩, Nat.le_of_ble_eq_true rfl⟩
theorem kwJ7_304 : kwS RJ7 304 yJ9_min_7cf53 cJ9_min_7cf53 2 (some FieldType.int) 2 := ⟨qw2_60, qw2_61, qw1_14, qw2_62, ⟨by decide, by decide, by decide +kernel⟩, Nat.le_of_ble_eq_true rfl⟩
theorem kwJx4a65c_79 : kwS RJx4a65c 79 yJ9_max_7cf53 cJ9_max_7cf53 2 (some FieldType.int) 2 := ⟨qw2_66, qw2_32, qw1_14, qw2_33, ⟨by decide, by decide, by decide +kernel⟩, Nat.le_of_ble_eq_true rfl⟩
theorem kwX4_62 : kwV RX4 62 yX4_rollAllTrades cX4_rollAllTrades 2 (none : Option FieldType) 0 := ⟨qw2_68, qw2_70, qp5, qw1_1, qw2_71, ⟨by decide, by decide, by decide +kernel⟩, Nat.le_of_ble_eq_true rfl⟩
theorem kwX4_85 : kwV RX4 85 yJx4a65c_size_8abf5 cJx4a65c_size_8abf5 1 (some FieldType.int) 0 := ⟨qw2_72, qw1_192, qw1_193, qw1_6, qw1_194, ⟨by decide, by decide, by decide +kernel⟩, Nat.le_of_ble_eq_true rfl⟩
theorem kwX4_134 : kwV RX4 134 yJx4a65c_get_915e3 cJx4a65c_get_915e3 2 (some (FieldType.object "java/lang/Object")) 1 := ⟨qw2_73, qw1_204, qw1_205, qw1_6, qw1_206, ⟨by decide, by decide, by decide +kernel⟩, Nat.le_of_ble_eq_true rfl⟩
theorem kwX4_95 : kwV RX4 95 yX3_rollDays cX3_rollDays 3 (none : Option FieldType) 1 := ⟨qw2_75, qw2_76, qw2_77, qw1_13, qw2_78, ⟨by decide, by decide, by decide +kernel⟩, Nat.le_of_ble_eq_true rfl⟩
theorem kwX3_57 : kwV RX3 57 yX0_rolledDayOf cX0_rolledDayOf 4 (some FieldType.int) 1 := ⟨qw2_79, qw2_80, qw2_81, qw1_2, qw2_82, ⟨by decide, by decide, by decide +kernel⟩, Nat.le_of_ble_eq_true rfl⟩
theorem kwX0_31 : kwV RX0 31 yX0_opensOn cX0_opensOn 2 (some FieldType.boolean) 1 := ⟨qw2_83, qw2_84, qw2_85, qw1_2, qw2_86, ⟨by decide, by decide, by decide +kernel⟩, Nat.le_of_ble_eq_true rfl⟩
theorem kwX0_21 : kwS RX0 21 yJ9_floorMod_7cf53 cJ9_floorMod_7cf53 3 (some FieldType.int) 2 := ⟨qw2_87, qw2_88, qw1_14, qw2_89, ⟨by decide, by decide, by decide +kernel⟩, Nat.le_of_ble_eq_true rfl⟩
theorem kwX0_27 : kwV RX0 27 yX1_has cX1_has 2 (some FieldType.boolean) 1 := ⟨qw2_90, qw1_196, qw1_197, qw1_3, qw1_198, ⟨by decide, by decide, by decide +kernel⟩, Nat.le_of_ble_eq_true rfl⟩
theorem kwL_69 : kwV RL 69 yX4_isOpen cX4_isOpen 2 (some FieldType.boolean) 1 := ⟨qw2_91, qw2_92, qw2_93, qw1_1, qw2_94, ⟨by decide, by decide, by decide +kernel⟩, Nat.le_of_ble_eq_true rfl⟩
theorem kwX4_65 : kwV RX4 65 yX0_opensOn cX0_opensOn 2 (some FieldType.boolean) 1 := ⟨qw2_95, qw2_84, qw2_85, qw1_2, qw2_86, ⟨by decide, by decide, by decide +kernel⟩, Nat.le_of_ble_eq_true rfl⟩
theorem kwL_73 : kwV RL 73 yX4_roll cX4_roll 2 (some FieldType.int) 1 := ⟨qw2_96, qw2_97, qw2_98, qw1_1, qw2_99, ⟨by decide, by decide, by decide +kernel⟩, Nat.le_of_ble_eq_true rfl⟩
theorem kwX4_68 : kwV RX4 68 yX0_rolledDayOf cX0_rolledDayOf 4 (some FieldType.int) 1 := ⟨qw2_100, qw2_80, qw2_81, qw1_2, qw2_82, ⟨by decide, by decide, by decide +kernel⟩, Nat.le_of_ble_eq_true rfl⟩
theorem kwL_63 : kwV RL 63 yX4_fix cX4_fix 3 (some FieldType.int) 2 := ⟨qw2_101, qw2_102, qw2_103, qw1_1, qw2_104, ⟨by decide, by decide, by decide +kernel⟩, Nat.le_of_ble_eq_true rfl⟩
theorem kwX4_74 : kwV RX4 74 yX1_put cX1_put 4 (none : Option FieldType) 2 := ⟨qw2_106, qw2_107, qw2_108, qw1_3, qw2_109, ⟨by decide, by decide, by decide +kernel⟩, Nat.le_of_ble_eq_true rfl⟩
theorem kwX1_35 : kwV RX1 35 yX1_add cX1_add 3 (none : Option FieldType) 2 := ⟨qw2_110, qw1_235, qw1_236, qw1_3, qw1_237, ⟨by decide, by decide, by decide +kernel⟩, Nat.le_of_ble_eq_true rfl⟩
theorem kwL_55 : kwV RL 55 yX4_trade cX4_trade 9 (some FieldType.int) 7 := ⟨qw2_111, qw2_112, qw2_113, qw1_1, qw2_114, ⟨by decide, by decide, by decide +kernel⟩, Nat.le_of_ble_eq_true rfl⟩
theorem kwX4_81 : kwS RX4 81 yX4_checkParty cX4_checkParty 1 (none : Option FieldType) 1 := ⟨qw2_115, qw2_116, qw1_1, qw2_117, ⟨by decide, by decide, by decide +kernel⟩, Nat.le_of_ble_eq_true rfl⟩
theorem kwX4_92 : kwI RX4 92 yX3_init cX3_init 8 7 := ⟨qw2_121, qw2_122, qw1_13, qw2_123, ⟨by decide, by decide, by decide +kernel⟩, Nat.le_of_ble_eq_true rfl, rfl⟩
theorem kwX3_45 : kwI RX3 45 yX1_init cX1_init 1 0 := ⟨qw2_126, qw1_38, qw1_3, qw1_39, ⟨by decide, by decide, by decide +kernel⟩, Nat.le_of_ble_eq_true rfl, rfl⟩
theorem lkX3_9 : LK RX3 9 RX3 TX3 13 4 0 "Resetline$Swap" := ⟨iwX3, rfl, Nat.le_of_ble_eq_true rfl, qw2_127, Or.inl rfl⟩
theorem lkX3_15 : LK RX3 15 RX3 TX3 13 4 1 "Resetline$Swap" := ⟨iwX3, rfl, Nat.le_of_ble_eq_true rfl, qw2_128, Or.inl rfl⟩
theorem lkX3_18 : LK RX3 18 RX3 TX3 13 4 2 "Resetline$Swap" := ⟨iwX3, rfl, Nat.le_of_ble_eq_true rfl, qw2_129, Or.inl rfl⟩
theorem lkX3_22 : LK RX3 22 RX3 TX3 13 4 3 "Resetline$Swap" := ⟨iwX3, rfl, Nat.le_of_ble_eq_true rfl, qw2_130, Or.inl rfl⟩
theorem lkX3_25 : LK RX3 25 RX3 TX3 13 4 4 "Resetline$Swap" := ⟨iwX3, rfl, Nat.le_of_ble_eq_true rfl, qw2_131, Or.inl rfl⟩
theorem lkX3_28 : LK RX3 28 RX3 TX3 13 4 5 "Resetline$Swap" := ⟨iwX3, rfl, Nat.le_of_ble_eq_true rfl, qw2_132, Or.inl rfl⟩
theorem lkX3_31 : LK RX3 31 RX3 TX3 13 4 6 "Resetline$Swap" := ⟨iwX3, rfl, Nat.le_of_ble_eq_true rfl, qw2_133, Or.inl rfl⟩
theorem lkX4_190 : LK RX4 190 RX3 TX3 13 4 6 "Resetline$Swap" := ⟨iwX3, rfl, Nat.le_of_ble_eq_true rfl, qw2_134, Or.inl rfl⟩
theorem lkX3_34 : LK RX3 34 RX3 TX3 13 4 7 "Resetline$Swap" := ⟨iwX3, rfl, Nat.le_of_ble_eq_true rfl, qw2_135, Or.inl rfl⟩
theorem lkX3_37 : LK RX3 37 RX3 TX3 13 4 8 "Resetline$Swap" := ⟨iwX3, rfl, Nat.le_of_ble_eq_true rfl, qw2_136, Or.inl rfl⟩
theorem lkX3_40 : LK RX3 40 RX3 TX3 13 4 9 "Resetline$Swap" := ⟨iwX3, rfl, Nat.le_of_ble_eq_true rfl, qw2_137, Or.inl rfl⟩
theorem lkX3_46 : LK RX3 46 RX3 TX3 13 4 10 "Resetline$Swap" := ⟨iwX3, rfl, Nat.le_of_ble_eq_true rfl, qw2_138, Or.inl rfl⟩
theorem lkX4_106 : LK RX4 106 RX3 TX3 13 4 10 "Resetline$Swap" := ⟨iwX3, rfl, Nat.le_of_ble_eq_true rfl, qw2_139, Or.inl rfl⟩
theorem lkX3_50 : LK RX3 50 RX3 TX3 13 4 11 "Resetline$Swap" := ⟨iwX3, rfl, Nat.le_of_ble_eq_true rfl, qw2_140, Or.inl rfl⟩
theorem lkX4_126 : LK RX4 126 RX3 TX3 13 4 11 "Resetline$Swap" := ⟨iwX3, rfl, Nat.le_of_ble_eq_true rfl, qw2_141, Or.inl rfl⟩
theorem lkX3_53 : LK RX3 53 RX3 TX3 13 4 12 "Resetline$Swap" := ⟨iwX3, rfl, Nat.le_of_ble_eq_true rfl, qw2_142, Or.inl rfl⟩
theorem kwX4_99 : kwV RX4 99 yJx4a65c_add_9ea2d cJx4a65c_add_9ea2d 2 (some FieldType.boolean) 1 := ⟨qw2_171, qw2_13, qw2_14, qw1_6, qw2_15, ⟨by decide, by decide, by decide +kernel⟩, Nat.le_of_ble_eq_true rfl⟩
theorem kwL_59 : kwV RL 59 yX4_handOver cX4_handOver 6 (some FieldType.int) 3 := ⟨qw2_172, qw2_173, qw2_174, qw1_1, qw2_175, ⟨by decide, by decide, by decide +kernel⟩, Nat.le_of_ble_eq_true rfl⟩
theorem kwX4_102 : kwV RX4 102 yX4_swapAt cX4_swapAt 2 (some (FieldType.object "Resetline$Swap")) 1 := ⟨qw2_176, qw2_178, qp6, qw1_1, qw2_179, ⟨by decide, by decide, by decide +kernel⟩, Nat.le_of_ble_eq_true rfl⟩
theorem kwX4_131 : kwV RX4 131 yX3_holderOn cX3_holderOn 2 (some FieldType.int) 1 := ⟨qw2_182, qw2_183, qw2_184, qw1_13, qw2_185, ⟨by decide, by decide, by decide +kernel⟩, Nat.le_of_ble_eq_true rfl⟩
theorem kwX3_69 : kwV RX3 69 yX1_latestValue cX1_latestValue 7 (some FieldType.int) 2 := ⟨qw2_186, qw2_187, qw2_188, qw1_3, qw2_189, ⟨by decide, by decide, by decide +kernel⟩, Nat.le_of_ble_eq_true rfl⟩
theorem kwL_42 : kwV RL 42 yX4_start cX4_start 3 (some FieldType.int) 2 := ⟨qw2_190, qw2_191, qw2_192, qw1_1, qw2_193, ⟨by decide, by decide, by decide +kernel⟩, Nat.le_of_ble_eq_true rfl⟩
theorem kwX4_142 : kwV RX4 142 yX4_swapWithPeriod cX4_swapWithPeriod 4 (some (FieldType.object "Resetline$Swap")) 2 := ⟨qw2_194, qw2_196, qp7, qw1_1, qw2_197, ⟨by decide, by decide, by decide +kernel⟩, Nat.le_of_ble_eq_true rfl⟩
theorem kwX4_146 : kwV RX4 146 yX3_startOf cX3_startOf 2 (some FieldType.int) 1 := ⟨qw2_199, qw2_200, qw2_201, qw1_13, qw2_202, ⟨by decide, by decide, by decide +kernel⟩, Nat.le_of_ble_eq_true rfl⟩
theorem kwL_39 : kwV RL 39 yX4_lots cX4_lots 3 (some FieldType.int) 2 := ⟨qw2_203, qw2_204, qw2_205, qw1_1, qw2_206, ⟨by decide, by decide, by decide +kernel⟩, Nat.le_of_ble_eq_true rfl⟩
theorem kwX4_152 : kwV RX4 152 yX3_lotsOf cX3_lotsOf 2 (some FieldType.int) 1 := ⟨qw2_207, qw2_208, qw2_209, qw1_13, qw2_210, ⟨by decide, by decide, by decide +kernel⟩, Nat.le_of_ble_eq_true rfl⟩
theorem kwX3_63 : kwV RX3 63 yX3_startOf cX3_startOf 2 (some FieldType.int) 1 := ⟨qw2_211, qw2_200, qw2_201, qw1_13, qw2_202, ⟨by decide, by decide, by decide +kernel⟩, Nat.le_of_ble_eq_true rfl⟩
theorem kwX3_66 : kwV RX3 66 yX1_sumUntil cX1_sumUntil 5 (some FieldType.int) 1 := ⟨qw2_212, qw2_213, qw2_214, qw1_3, qw2_215, ⟨by decide, by decide, by decide +kernel⟩, Nat.le_of_ble_eq_true rfl⟩
theorem kwL_46 : kwS RL 46 yL_cell cL_cell 2 (some FieldType.int) 2 := ⟨qw2_216, qw2_217, qw1_0, qw2_218, ⟨by decide, by decide, by decide +kernel⟩, Nat.le_of_ble_eq_true rfl⟩
theorem kwL_52 : kwS RL 52 yL_low cL_low 2 (some FieldType.int) 2 := ⟨qw2_219, qw2_220, qw1_0, qw2_221, ⟨by decide, by decide, by decide +kernel⟩, Nat.le_of_ble_eq_true rfl⟩
theorem kwL_84 : kwS RL 84 yL_isCash cL_isCash 12 (some FieldType.boolean) 4 := ⟨qw2_223, qw2_224, qw1_0, qw2_225, ⟨by decide, by decide, by decide +kernel⟩, Nat.le_of_ble_eq_true rfl⟩
theorem kwL_8 : kwV RL 8 yX4_cashOfDays cX4_cashOfDays 7 (some FieldType.long) 3 := ⟨qw2_226, qw2_227, qw2_228, qw1_1, qw2_229, ⟨by decide, by decide, by decide +kernel⟩, Nat.le_of_ble_eq_true rfl⟩
theorem kwX4_166 : kwS RX4 166 yX4_checkSpan cX4_checkSpan 2 (none : Option FieldType) 2 := ⟨qw2_230, qw2_231, qw1_1, qw2_232, ⟨by decide, by decide, by decide +kernel⟩, Nat.le_of_ble_eq_true rfl⟩
theorem kwX4_181 : kwS RX4 181 yJ9_min_7cf53 cJ9_min_7cf53 2 (some FieldType.int) 2 := ⟨qw2_233, qw2_61, qw1_14, qw2_62, ⟨by decide, by decide, by decide +kernel⟩, Nat.le_of_ble_eq_true rfl⟩
theorem kwX4_162 : kwV RX4 162 yX4_cashOnDay cX4_cashOnDay 6 (some FieldType.long) 2 := ⟨qw2_234, qw2_236, qp8, qw1_1, qw2_237, ⟨by decide, by decide, by decide +kernel⟩, Nat.le_of_ble_eq_true rfl⟩
theorem kwX4_169 : kwV RX4 169 yX3_cashOf cX3_cashOf 9 (some FieldType.long) 4 := ⟨qw2_238, qw2_239, qw3_0, qw1_13, qw3_1, ⟨by decide, by decide, by decide +kernel⟩, Nat.le_of_ble_eq_true rfl⟩
theorem kwX3_95 : kwV RX3 95 yX3_endOf cX3_endOf 2 (some FieldType.int) 1 := ⟨qw3_2, qw3_3, qw3_4, qw1_13, qw3_5, ⟨by decide, by decide, by decide +kernel⟩, Nat.le_of_ble_eq_true rfl⟩
theorem kwX3_98 : kwV RX3 98 yX3_holderOn cX3_holderOn 2 (some FieldType.int) 1 := ⟨qw3_6, qw2_183, qw2_184, qw1_13, qw2_185, ⟨by decide, by decide, by decide +kernel⟩, Nat.le_of_ble_eq_true rfl⟩
theorem kwX3_101 : kwV RX3 101 yX3_flowOf cX3_flowOf 5 (some FieldType.long) 2 := ⟨qw3_7, qw3_8, qw3_9, qw1_13, qw3_10, ⟨by decide, by decide, by decide +kernel⟩, Nat.le_of_ble_eq_true rfl⟩
theorem kwX3_89 : kwV RX3 89 yX3_floatingOf cX3_floatingOf 12 (some FieldType.long) 2 := ⟨qw3_11, qw3_12, qw3_13, qw1_13, qw3_14, ⟨by decide, by decide, by decide +kernel⟩, Nat.le_of_ble_eq_true rfl⟩
theorem kwX3_73 : kwV RX3 73 yX3_rateOf cX3_rateOf 3 (some FieldType.long) 2 := ⟨qw3_15, qw3_17, qp9, qw1_13, qw3_18, ⟨by decide, by decide, by decide +kernel⟩, Nat.le_of_ble_eq_true rfl⟩
theorem kwX3_77 : kwV RX3 77 yX3_daysOf cX3_daysOf 2 (some FieldType.long) 1 := ⟨qw3_19, qw3_21, qp10, qw1_13, qw3_22, ⟨by decide, by decide, by decide +kernel⟩, Nat.le_of_ble_eq_true rfl⟩
theorem kwX3_83 : kwS RX3 83 yJ9_floorDiv_f86c9 cJ9_floorDiv_f86c9 6 (some FieldType.long) 2 := ⟨qw3_24, qw3_25, qw1_14, qw3_26, ⟨by decide, by decide, by decide +kernel⟩, Nat.le_of_ble_eq_true rfl⟩
theorem kwX3_92 : kwV RX3 92 yX3_lotsOf cX3_lotsOf 2 (some FieldType.int) 1 := ⟨qw3_27, qw2_208, qw2_209, qw1_13, qw2_210, ⟨by decide, by decide, by decide +kernel⟩, Nat.le_of_ble_eq_true rfl⟩
theorem kwL_14 : kwV RL 14 yX4_cashByTrades cX4_cashByTrades 7 (some FieldType.long) 3 := ⟨qw3_28, qw3_29, qw3_30, qw1_1, qw3_31, ⟨by decide, by decide, by decide +kernel⟩, Nat.le_of_ble_eq_true rfl⟩
theorem kwL_17 : kwV RL 17 yX4_trades cX4_trades 1 (some FieldType.int) 0 := ⟨qw3_32, qw3_33, qw3_34, qw1_1, qw3_35, ⟨by decide, by decide, by decide +kernel⟩, Nat.le_of_ble_eq_true rfl⟩
theorem kwL_21 : kwV RL 21 yX4_end cX4_end 3 (some FieldType.int) 2 := ⟨qw3_36, qw3_37, qw3_38, qw1_1, qw3_39, ⟨by decide, by decide, by decide +kernel⟩, Nat.le_of_ble_eq_true rfl⟩
theorem kwX4_149 : kwV RX4 149 yX3_endOf cX3_endOf 2 (some FieldType.int) 1 := ⟨qw3_40, qw3_3, qw3_4, qw1_13, qw3_5, ⟨by decide, by decide, by decide +kernel⟩, Nat.le_of_ble_eq_true rfl⟩
theorem kwL_25 : kwV RL 25 yX4_flow cX4_flow 3 (some FieldType.long) 2 := ⟨qw3_41, qw3_42, qw3_43, qw1_1, qw3_44, ⟨by decide, by decide, by decide +kernel⟩, Nat.le_of_ble_eq_true rfl⟩
theorem kwX4_159 : kwV RX4 159 yX3_flowOf cX3_flowOf 5 (some FieldType.long) 2 := ⟨qw3_45, qw3_8, qw3_9, qw1_13, qw3_10, ⟨by decide, by decide, by decide +kernel⟩, Nat.le_of_ble_eq_true rfl⟩
theorem kwL_29 : kwV RL 29 yX4_partyOn cX4_partyOn 4 (some FieldType.int) 2 := ⟨qw3_46, qw3_47, qw3_48, qw1_1, qw3_49, ⟨by decide, by decide, by decide +kernel⟩, Nat.le_of_ble_eq_true rfl⟩
theorem kwL_32 : kwV RL 32 yX4_nextFlow cX4_nextFlow 6 (some FieldType.int) 2 := ⟨qw3_50, qw3_51, qw3_52, qw1_1, qw3_53, ⟨by decide, by decide, by decide +kernel⟩, Nat.le_of_ble_eq_true rfl⟩
theorem kwX4_173 : kwV RX4 173 yX3_nextPayDay cX3_nextPayDay 5 (some FieldType.int) 2 := ⟨qw3_54, qw3_55, qw3_56, qw1_13, qw3_57, ⟨by decide, by decide, by decide +kernel⟩, Nat.le_of_ble_eq_true rfl⟩
theorem kwL_80 : kwS RL 80 yL_isPressed cL_isPressed 14 (some FieldType.boolean) 4 := ⟨qw3_58, qw3_59, qw1_0, qw3_60, ⟨by decide, by decide, by decide +kernel⟩, Nat.le_of_ble_eq_true rfl⟩
theorem kwL_35 : kwV RL 35 yX4_press cX4_press 5 (some FieldType.int) 1 := ⟨qw3_61, qw3_62, qw3_63, qw1_1, qw3_64, ⟨by decide, by decide, by decide +kernel⟩, Nat.le_of_ble_eq_true rfl⟩
theorem kwX4_138 : kwS RX4 138 yX4_pressPair cX4_pressPair 4 (some FieldType.int) 3 := ⟨qw3_65, qw3_66, qw1_1, qw3_67, ⟨by decide, by decide, by decide +kernel⟩, Nat.le_of_ble_eq_true rfl⟩
theorem kwX4_195 : kwV RX4 195 yX3_fits cX3_fits 2 (some FieldType.boolean) 1 := ⟨qw3_68, qw3_69, qw3_70, qw1_13, qw3_71, ⟨by decide, by decide, by decide +kernel⟩, Nat.le_of_ble_eq_true rfl⟩
theorem kwX4_199 : kwV RX4 199 yX3_isOfSamePartyFrom cX3_isOfSamePartyFrom 6 (some FieldType.boolean) 2 := ⟨qw3_72, qw3_73, qw3_74, qw1_13, qw3_75, ⟨by decide, by decide, by decide +kernel⟩, Nat.le_of_ble_eq_true rfl⟩
theorem kwX4_121 : kwV RX4 121 yX3_restOfLots cX3_restOfLots 1 (some FieldType.int) 0 := ⟨qw3_76, qw3_77, qw3_78, qw1_13, qw3_79, ⟨by decide, by decide, by decide +kernel⟩, Nat.le_of_ble_eq_true rfl⟩
theorem kwL_76 : kwS RL 76 yL_breaks cL_breaks 7 (some FieldType.boolean) 6 := ⟨qw3_80, qw3_81, qw1_0, qw3_82, ⟨by decide, by decide, by decide +kernel⟩, Nat.le_of_ble_eq_true rfl⟩
theorem kwL_87 : kwV RL 87 yX4_breakPart cX4_breakPart 5 (some FieldType.int) 3 := ⟨qw3_83, qw3_84, qw3_85, qw1_1, qw3_86, ⟨by decide, by decide, by decide +kernel⟩, Nat.le_of_ble_eq_true rfl⟩
end
section
/-! what the diaries hold, as lists of (day, value) -/
abbrev Dy : Type := List (Int32 × Int32)
def ixL (d : Int32) : Nat → Dy → Option Nat
  | _, [] => none
  | i, x :: xs => if x.1 = d then some i else ixL d (i + 1) xs
def dHas (es : Dy) (d : Int32) : Bool := (ixL d 0 es).isSome
def lvL (day : Int32) : Int32 → Int32 → Dy → Int32
  | _, v, [] => v
  | lt, v, x :: xs => if x.1 ≤ day ∧ lt ≤ x.1 then lvL day x.1 x.2 xs else lvL day lt v xs
def dLast (es : Dy) (day o : Int32) : Int32 := lvL day (-1) o es
def smL (day : Int32) : Int32 → Dy → Int32
  | s, [] => s
  | s, x :: xs => if x.1 ≤ day then smL day (s + x.2) xs else smL day s xs
def dSum (es : Dy) (day : Int32) : Int32 := smL day 0 es
theorem drop_c {α : Type} {l r : List α} {x : α} {i : Nat} (h : l.drop i = x :: r) : l[i]? = some x ∧ i < l.length ∧ l.drop (i + 1) = r := by
  have h1 : i < l.length := by
    rcases Nat.lt_or_ge i l.length with q | q
    · exact q
    · rw [List.drop_eq_nil_of_le q] at h; cases h
  rw [List.drop_eq_getElem_cons h1] at h
  injection h with h2 h3
  exact ⟨by rw [List.getElem?_eq_getElem h1, h2], h1, h3⟩
theorem drop_n {α : Type} {l : List α} {i : Nat} (h : l.drop i = []) (hi : i ≤ l.length) : i = l.length := by
  have := List.drop_eq_nil_iff.mp h
  omega
/-- an ArrayList: c elements, the i-th at the cell ad i -/
def LR (E : ET) (a c : Nat) (ad : Nat → Nat) (H : Heap) : Prop := ∃ (mo : Int32) (arr n : Nat) (f : Nat → Option Nat), OB E 0 [.int mo, .ref arr, .int (nI c)] a H ∧ QB E n f arr H ∧ c ≤ n ∧ n < 2 ^ 31 ∧ ∀ i, i < c → f i = some (ad i)
/-- a Diary at d, its list at a, its entries at ad i -/
def DRx (E : ET) (d a : Nat) (ad : Nat → Nat) (es : Dy) (H : Heap) : Prop := OB E 2 [.ref a] d H ∧ LR E a es.length ad H ∧ ∀ (i : Nat) (x : Int32 × Int32), es[i]? = some x → OB E 3 [.int x.1, .int x.2] (ad i) H
def DR (E : ET) (d : Nat) (es : Dy) (H : Heap) : Prop := ∃ (a : Nat) (ad : Nat → Nat), DRx E d a ad es H
theorem LR.ob {E : ET} {a c : Nat} {ad : Nat → Nat} {H : Heap} (h : LR E a c ad H) : ∃ fs, OB E 0 fs a H ∧ c < 2 ^ 31 := by
  obtain ⟨mo, arr, n, f, h1, h2, h3, h4, h5⟩ := h
  exact ⟨_, h1, by omega⟩
end
section
theorem nx_xor (a b : Nat) : nI a ^^^ nI b = nI (a ^^^ b) := by
  apply Int32.toBitVec_inj.1
  show BitVec.ofNat 32 a ^^^ BitVec.ofNat 32 b = BitVec.ofNat 32 (a ^^^ b)
  apply BitVec.eq_of_getLsbD_eq
  intro i hi
  simp [hi]
theorem xor_pos {d : Nat} (h : d < 2 ^ 31) : 0 ≤ nI d ^^^ nI 7 := by
  rw [nx_xor]
  exact nI_pos' (Nat.xor_lt_two_pow h (by decide))
/-- the floor of a quotient by the cents of a lot, as the reference says it -/
def flo (x : Int64) : Int64 := if x / 3600000 * 3600000 > x then x / 3600000 - 1 else x / 3600000
theorem lot_toInt : (3600000 : Int64).toInt = 3600000 := by decide
theorem divmul (x : Int64) : (x / 3600000 * 3600000).toInt = x.toInt.tdiv 3600000 * 3600000 := by
  have e := Int.tmod_add_mul_tdiv x.toInt 3600000
  have h1 := Int.tmod_lt_of_pos x.toInt (b := 3600000) (by decide)
  have h2 := Int.lt_tmod_of_pos x.toInt (b := 3600000) (by decide)
  have b1 := x.toInt_lt
  have b2 := x.le_toInt
  have h3 : 0 ≤ x.toInt → 0 ≤ x.toInt.tmod 3600000 := fun h => Int.tmod_nonneg _ h
  have h4 : x.toInt ≤ 0 → x.toInt.tmod 3600000 ≤ 0 := fun h => by
    have := Int.tmod_nonneg (a := -x.toInt) 3600000 (by omega)
    rw [Int.neg_tmod] at this
    omega
  rw [Int64.toInt_mul, Int64.toInt_div_of_ne_right _ _ (by decide), lot_toInt]
  generalize x.toInt.tdiv 3600000 = q at *
  generalize x.toInt.tmod 3600000 = r at *
  generalize x.toInt = y at *
  refine Int.bmod_eq_of_le ?_ ?_
  · rcases Int.le_total 0 y with h | h
    · have := h3 h; omega
    · have := h4 h; omega
  · rcases Int.le_total 0 y with h | h
    · have := h3 h; omega
    · have := h4 h; omega
theorem divmul_pos {x : Int64} (h : 0 ≤ x) : ¬ x / 3600000 * 3600000 > x := by
  intro q
  have q : x < x / 3600000 * 3600000 := q
  rw [Int64.lt_iff_toInt_lt, divmul] at q
  rw [Int64.le_iff_toInt_le] at h
  have h : 0 ≤ x.toInt := h
  have e := Int.tmod_add_mul_tdiv x.toInt 3600000
  have := Int.tmod_nonneg 3600000 h
  omega
theorem divmul_neg {x : Int64} (h : x < 0) (hn : ¬ x / 3600000 * 3600000 = x) : x / 3600000 * 3600000 > x := by
  show x < x / 3600000 * 3600000
  rw [Int64.lt_iff_toInt_lt, divmul]
  rw [Int64.lt_iff_toInt_lt] at h
  have h : x.toInt < 0 := h
  have hn : ¬ x.toInt.tdiv 3600000 * 3600000 = x.toInt := fun q => hn (Int64.toInt_inj.mp (by rw [divmul]; exact q))
  have e := Int.tmod_add_mul_tdiv x.toInt 3600000
  have := Int.tmod_nonneg (a := -x.toInt) 3600000 (by omega)
  rw [Int.neg_tmod] at this
  omega
theorem xor_neg (x : Int64) : x ^^^ 3600000 < 0 ↔ x < 0 := by
  rw [Int64.lt_iff_toInt_lt, Int64.lt_iff_toInt_lt]
  have a : ∀ y : Int64, y.toInt < (0 : Int64).toInt ↔ y.toBitVec.msb = true := fun y => by
    rw [BitVec.msb_eq_toInt]
    simp
  rw [a, a]
  have e : (x ^^^ 3600000).toBitVec = x.toBitVec ^^^ (3600000 : Int64).toBitVec := rfl
  rw [e, BitVec.msb_xor]
  have e2 : (3600000 : Int64).toBitVec.msb = false := by decide
  rw [e2]
  simp
theorem lcmp_ge0 {x y : Int64} : 0 ≤ lg_cmp x y ↔ y ≤ x := lg_cmp_ge x y
theorem lcmp_eq0 {x y : Int64} : lg_cmp x y = 0 ↔ x = y := by
  unfold lg_cmp
  constructor
  · intro h
    by_cases c : x > y
    · rw [if_pos c] at h; exact absurd h (by decide)
    · rw [if_neg c] at h
      by_cases c2 : x = y
      · exact c2
      · rw [if_neg c2] at h; exact absurd h (by decide)
  · intro h
    subst h
    rw [if_neg (fun q => absurd q (Int64.lt_irrefl)), if_pos rfl]
theorem flo_a {x : Int64} (h : 0 ≤ lg_cmp (x ^^^ 3600000) 0) : x / 3600000 = flo x := by
  have h1 : ¬ x ^^^ 3600000 < 0 := Int64.not_lt.mpr (lcmp_ge0.mp h)
  rw [xor_neg] at h1
  rw [flo, if_neg (divmul_pos (Int64.not_lt.mp h1))]
theorem flo_b {x : Int64} (h : lg_cmp (x / 3600000 * 3600000) x = 0) : x / 3600000 = flo x := by
  have h1 := lcmp_eq0.mp h
  rw [flo, if_neg (fun q => by rw [h1] at q; exact absurd q Int64.lt_irrefl)]
theorem flo_c {x : Int64} (h : ¬ 0 ≤ lg_cmp (x ^^^ 3600000) 0) (h2 : ¬ lg_cmp (x / 3600000 * 3600000) x = 0) : x / 3600000 - 1 = flo x := by
  have h1 : x ^^^ 3600000 < 0 := Int64.not_le.mp (fun q => h (lcmp_ge0.mpr q))
  rw [xor_neg] at h1
  rw [flo, if_pos (divmul_neg h1 (fun q => h2 (lcmp_eq0.mpr q)))]
end
section
/-! methods of a class that has natives: by the method's own name -/
theorem MetofWF {l : Launch} {y : MethodName} {ws ws' : List Cond} {rm : Room} {Pc : Array Value → State → Prop} {Qc : Array Value → State → Outcome → State → Prop} {mc ms : Nat} {free : Addr → Prop} {cc : ByteArray} {maxL : Nat} {ret : Option FieldType}
    (hy : plainFor y = true) (hw : ws = Cond.code y cc maxL ret :: ws')
    (body : ∀ p e s m args below meth c s₁, BodyLoose p l y (headSpec ws rm) cc maxL ret e s m args below meth c s₁ → c.maxLocals = maxL → Pc args s →
      W p l e (headSpec ws rm).room s m args below meth c s.heap [] 0 0 (MQ below Qc args s mc ms free) (entryFrame m args maxL)) : Met l y ws rm Pc Qc mc ms free := by
  refine MetFree.of_bodySF (code := cc) (maxLocals := maxL) (ret := ret) hy ?_ ?_
  · intro args s m h hn
    obtain ⟨meth, c, h1, h2, h3, h4, h5, h6, -, -⟩ := Cond.code_spec hn (atoms_spec (ws := ws) h _ (by rw [hw]; exact List.mem_cons_self))
    exact ⟨meth, c, h1, h2, h3, h4, h5, h6⟩
  · intro p e s m args below meth c s₁ B hml hP _
    have hh0 : s₁.heap = s.heap := by rw [B.state]; rfl
    obtain ⟨t, a1, o, b1, b2, b3⟩ := body p e s m args below meth c s₁ B hml hP s₁ hh0 (Stand.of_body B)
    exact ⟨t, o, a1, b1, b2, ⟨b3.1, b3.2⟩⟩
theorem PCon.ofF {E : ET} {y : MethodName} {b : ByteArray} {mL : Nat} {ret : Option FieldType} {k : Nat} {av : List Value} {H : Heap} {v : Option Value} {C : String} (hC : y.cls = C) (hy : plainFor y = true) (hn : (lg_sl av).length ≤ mL)
    (body : ∀ (p : Program) (e : Env) (s : State) (m : MethodId) (below : List Frame) (meth : Method) (c : Code) (ls : Array Slot), p.tables.exec = Jvm.exec → c.code = b → meth.sig.returnType = ret → meth.locks = false → c.maxLocals = mL → s.vm.findClass C = some m.cls → (∀ w ∈ Tw, w.before av.toArray s = true) → EV E s H → s.heap = H → lv_has ls mL (lv_args 0 av) →
      W p (eL E) e (rmk k 0 0) s m av.toArray below meth c H [] 0 0 (MQ below (PQ v) av.toArray s 0 0 (fun _ => False)) (F0 m 0 ls [])) : PCon E y b mL ret k av H v := by
  refine MetofWF (cc := b) (maxL := mL) (ret := ret) hy rfl ?_
  intro p e s m args below meth c s₁ B hml hv
  obtain ⟨rfl, rfl, hE⟩ := hv
  subst hC
  have hl := lv_entry av hn
  rw [lg_entry_eq]
  exact body p e s m below meth c _ B.exec B.bytes B.returns B.notSynchronized hml (findClass_of_methodNamed B.named) (tw_hts B.pre) hE rfl hl
end
section
set_option maxRecDepth 100000 in
set_option maxHeartbeats 4000000 in
/-- Preconditions.checkIndex -/
theorem c_chk3 (E : ET) (i c : Nat) (H : Heap) (hi : i < c) (hc : c < 2 ^ 31) : PCon E yJ3_checkIndex_8e157 cJ3_checkIndex_8e157 3 (some FieldType.int) 1 [.int (nI i), .int (nI c), .null] H (some (.int (nI i))) := by
  refine PCon.of (C := RJ3) rfl (by decide +kernel) (Nat.le_of_ble_eq_true rfl) ?_
  intro p e s m below meth co ls hx hb hr hlk hml hown hts hE hH hl
  have hl : lv_has ls 3 [(0, .int (nI i)), (1, .int (nI c)), (2, .null)] := hl
  refine lv_iload_n hx hb dJ3_checkIndex_8e157_0 rfl (lv_at hl 0 rfl) ?_
  refine lv_if_lt (tgt := 9) hx hb dJ3_checkIndex_8e157_1 (by decide) (fun c => ?_) (fun c => ?_)
  · exact absurd c (nI_pos (by omega))
  refine lv_iload_n hx hb dJ3_checkIndex_8e157_4 rfl (lv_at hl 0 rfl) ?_
  refine lv_iload_n hx hb dJ3_checkIndex_8e157_5 rfl (lv_at hl 1 rfl) ?_
  refine lv_icmp_lt (tgt := 16) hx hb dJ3_checkIndex_8e157_6 (by decide) (fun c => ?_) (fun c => ?_)
  rotate_left
  · exact absurd (nI_lt hi (by omega)) c
  refine lv_iload_n hx hb dJ3_checkIndex_8e157_16 rfl (lv_at hl 0 rfl) ?_
  exact pI hx hb hr hlk hH rfl dJ3_checkIndex_8e157_17

set_option maxRecDepth 100000 in
set_option maxHeartbeats 4000000 in
/-- Objects.checkIndex -/
theorem c_chk15 (E : ET) (i c : Nat) (H : Heap) (hi : i < c) (hc : c < 2 ^ 31) : PCon E yJ15_checkIndex_7cf53 cJ15_checkIndex_7cf53 2 (some FieldType.int) 2 [.int (nI i), .int (nI c)] H (some (.int (nI i))) := by
  refine PCon.of (C := RJ15) rfl (by decide +kernel) (Nat.le_of_ble_eq_true rfl) ?_
  intro p e s m below meth co ls hx hb hr hlk hml hown hts hE hH hl
  have hl : lv_has ls 2 [(0, .int (nI i)), (1, .int (nI c))] := hl
  refine lv_iload_n hx hb dJ15_checkIndex_7cf53_0 rfl (lv_at hl 0 rfl) ?_
  refine lv_iload_n hx hb dJ15_checkIndex_7cf53_1 rfl (lv_at hl 1 rfl) ?_
  refine lv_null hx hb dJ15_checkIndex_7cf53_2 ?_
  refine pS hx hb hml hts hown hE kwJ15_105 (c_chk3 E i c H hi hc) (Nat.le_of_ble_eq_true rfl) rfl hl.1 rfl (Nat.le_of_ble_eq_true rfl) (Nat.le_refl _) (Nat.le_refl _) dJ15_checkIndex_7cf53_3 ?_
  exact pI hx hb hr hlk hH rfl dJ15_checkIndex_7cf53_6

set_option maxRecDepth 100000 in
set_option maxHeartbeats 4000000 in
/-- ArrayList.size -/
theorem c_size (E : ET) (a c : Nat) (ad : Nat → Nat) (H : Heap) (h : LR E a c ad H) : PCon E yJx4a65c_size_8abf5 cJx4a65c_size_8abf5 1 (some FieldType.int) 1 [.ref a] H (some (.int (nI c))) := by
  refine PCon.of (C := RJx4a65c) rfl (by decide +kernel) (Nat.le_of_ble_eq_true rfl) ?_
  intro p e s m below meth co ls hx hb hr hlk hml hown hts hE hH hl
  have hl : lv_has ls 1 [(0, .ref a)] := hl
  obtain ⟨mo, arr, n, f, hO, hA, hc, hn, hf⟩ := h
  refine lv_aload_n hx hb dJx4a65c_size_8abf5_0 rfl (lv_at hl 0 rfl) ?_
  refine gf hx hb hts hown hE lkJx4a65c_48 hO rfl dJx4a65c_size_8abf5_1 ?_
  exact pI hx hb hr hlk hH rfl dJx4a65c_size_8abf5_4

set_option maxRecDepth 100000 in
set_option maxHeartbeats 4000000 in
/-- ArrayList.elementData -/
theorem c_elt (E : ET) (a c i : Nat) (ad : Nat → Nat) (H : Heap) (h : LR E a c ad H) (hi : i < c) : PCon E yJx4a65c_elementData_915e3 cJx4a65c_elementData_915e3 2 (some (FieldType.object "java/lang/Object")) 1 [.ref a, .int (nI i)] H (some (.ref (ad i))) := by
  refine PCon.of (C := RJx4a65c) rfl (by decide +kernel) (Nat.le_of_ble_eq_true rfl) ?_
  intro p e s m below meth co ls hx hb hr hlk hml hown hts hE hH hl
  have hl : lv_has ls 2 [(0, .ref a), (1, .int (nI i))] := hl
  obtain ⟨mo, arr, n, f, hO, hA, hc, hn, hf⟩ := h
  have hA := hA.qa (by omega)
  refine lv_aload_n hx hb dJx4a65c_elementData_915e3_0 rfl (lv_at hl 0 rfl) ?_
  refine gf hx hb hts hown hE lkJx4a65c_9 hO rfl dJx4a65c_elementData_915e3_1 ?_
  refine lv_iload_n hx hb dJx4a65c_elementData_915e3_4 rfl (lv_at hl 1 rfl) ?_
  refine aQ hx hb hE hA rfl (by omega) hn (hf i hi) dJx4a65c_elementData_915e3_5 ?_
  exact pA hx hb hr (Or.inl ⟨_, rfl⟩) (Or.inr ⟨_, rfl⟩) hlk hH rfl dJx4a65c_elementData_915e3_6

set_option maxRecDepth 100000 in
set_option maxHeartbeats 4000000 in
/-- ArrayList.get -/
theorem c_get (E : ET) (a c i : Nat) (ad : Nat → Nat) (H : Heap) (h : LR E a c ad H) (hi : i < c) : PCon E yJx4a65c_get_915e3 cJx4a65c_get_915e3 2 (some (FieldType.object "java/lang/Object")) 3 [.ref a, .int (nI i)] H (some (.ref (ad i))) := by
  refine PCon.of (C := RJx4a65c) rfl (by decide +kernel) (Nat.le_of_ble_eq_true rfl) ?_
  intro p e s m below meth co ls hx hb hr hlk hml hown hts hE hH hl
  have hl : lv_has ls 2 [(0, .ref a), (1, .int (nI i))] := hl
  have hh := h
  obtain ⟨mo, arr, n, f, hO, hA, hc, hn, hf⟩ := h
  refine lv_iload_n hx hb dJx4a65c_get_915e3_0 rfl (lv_at hl 1 rfl) ?_
  refine lv_aload_n hx hb dJx4a65c_get_915e3_1 rfl (lv_at hl 0 rfl) ?_
  refine gf hx hb hts hown hE lkJx4a65c_48 hO rfl dJx4a65c_get_915e3_2 ?_
  refine pS hx hb hml hts hown hE kwJx4a65c_118 (c_chk15 E i c H hi (by omega)) (Nat.le_of_ble_eq_true rfl) rfl hl.1 rfl (Nat.le_of_ble_eq_true rfl) (Nat.le_refl _) (Nat.le_refl _) dJx4a65c_get_915e3_5 ?_
  refine lv_pop hx hb dJx4a65c_get_915e3_8 rfl ?_
  refine lv_aload_n hx hb dJx4a65c_get_915e3_9 rfl (lv_at hl 0 rfl) ?_
  refine lv_iload_n hx hb dJx4a65c_get_915e3_10 rfl (lv_at hl 1 rfl) ?_
  refine pV hx hb hml hts hown hE kwJx4a65c_123 (c_elt E a c i ad H hh hi) hO rfl (Nat.le_of_ble_eq_true rfl) rfl hl.1 rfl (Nat.le_of_ble_eq_true rfl) (Nat.le_refl _) (Nat.le_refl _) dJx4a65c_get_915e3_11 ?_
  exact pA hx hb hr (Or.inl ⟨_, rfl⟩) (Or.inr ⟨_, rfl⟩) hlk hH rfl dJx4a65c_get_915e3_14
end
section
set_option maxRecDepth 100000 in
set_option maxHeartbeats 4000000 in
/-- Diary.entryOf -/
theorem c_entryOf (E : ET) (d a : Nat) (ad : Nat → Nat) (es : Dy) (day : Int32) (H : Heap) (h : DRx E d a ad es H) : PCon E yX1_entryOf cX1_entryOf 4 (some (FieldType.object "Resetline$Entry")) 4 [.ref d, .int day] H (some (va_rf ((ixL day 0 es).map ad))) := by
  refine PCon.of (C := RX1) rfl (by decide +kernel) (Nat.le_of_ble_eq_true rfl) ?_
  intro p e s m below meth co ls hx hb hr hlk hml hown hts hE hH hl
  have hl : lv_has ls 4 [(0, .ref d), (1, .int day)] := hl
  obtain ⟨hO, hL, hEs⟩ := h
  obtain ⟨fs0, hOa, hcl⟩ := hL.ob
  refine lv_iconst (v := 0) hx hb dX1_entryOf_0 (by decide) ?_
  refine lv_istore_n (lv' := [(2, .int 0), (0, .ref d), (1, .int day)]) hx hb dX1_entryOf_1 rfl hl (by decide) rfl (fun ls hl => ?_)
  have loop : ∀ (xs : Dy) (i : Nat) (ls : Array Slot), es.drop i = xs → i ≤ es.length → ixL day 0 es = ixL day i xs → lv_has ls 4 [(2, .int (nI i)), (0, .ref d), (1, .int day)] → W p (eL E) e (rmk 4 0 0) s m ([.ref d, .int day]).toArray below meth co H [] 0 0 (MQ below (PQ (some (va_rf ((ixL day 0 es).map ad)))) ([.ref d, .int day]).toArray s 0 0 (fun _ => False)) (F0 m 2 ls []) := by
    intro xs
    induction xs with
    | nil =>
      intro i ls hd hi he hl
      have hi2 := drop_n hd hi
      refine lv_iload_n hx hb dX1_entryOf_2 rfl (lv_at hl 0 rfl) ?_
      refine lv_aload_n hx hb dX1_entryOf_3 rfl (lv_at hl 1 rfl) ?_
      refine gf hx hb hts hown hE lkX1_12 hO rfl dX1_entryOf_4 ?_
      refine pV hx hb hml hts hown hE kwX1_18 (c_size E a es.length ad H hL) hOa rfl (Nat.le_of_ble_eq_true rfl) rfl hl.1 rfl (Nat.le_of_ble_eq_true rfl) (Nat.le_refl _) (Nat.le_refl _) dX1_entryOf_7 ?_
      refine lv_icmp_ge (tgt := 41) hx hb dX1_entryOf_10 (by decide) (fun c => ?_) (fun c => ?_)
      rotate_left
      · exact absurd (nI_le (by omega) (by omega)) c
      refine lv_null hx hb dX1_entryOf_41 ?_
      exact pA hx hb hr (Or.inl ⟨_, rfl⟩) (Or.inl rfl) hlk hH (by rw [he]; rfl) dX1_entryOf_42
    | cons x xs ih =>
      intro i ls hd hi he hl
      obtain ⟨hx0, hlt, hd2⟩ := drop_c hd
      refine lv_iload_n hx hb dX1_entryOf_2 rfl (lv_at hl 0 rfl) ?_
      refine lv_aload_n hx hb dX1_entryOf_3 rfl (lv_at hl 1 rfl) ?_
      refine gf hx hb hts hown hE lkX1_12 hO rfl dX1_entryOf_4 ?_
      refine pV hx hb hml hts hown hE kwX1_18 (c_size E a es.length ad H hL) hOa rfl (Nat.le_of_ble_eq_true rfl) rfl hl.1 rfl (Nat.le_of_ble_eq_true rfl) (Nat.le_refl _) (Nat.le_refl _) dX1_entryOf_7 ?_
      refine lv_icmp_ge (tgt := 41) hx hb dX1_entryOf_10 (by decide) (fun c => ?_) (fun c => ?_)
      · exact absurd c (nI_ge hlt (by omega))
      refine lv_aload_n hx hb dX1_entryOf_13 rfl (lv_at hl 1 rfl) ?_
      refine gf hx hb hts hown hE lkX1_12 hO rfl dX1_entryOf_14 ?_
      refine lv_iload_n hx hb dX1_entryOf_17 rfl (lv_at hl 0 rfl) ?_
      refine pV hx hb hml hts hown hE kwX1_41 (c_get E a es.length i ad H hL hlt) hOa rfl (Nat.le_of_ble_eq_true rfl) rfl hl.1 rfl (Nat.le_of_ble_eq_true rfl) (Nat.le_refl _) (Nat.le_refl _) dX1_entryOf_18 ?_
      refine cst hx hb hts hown hE qw1_217 (hEs i x hx0) rfl dX1_entryOf_21 ?_
      refine lv_astore_n (lv' := [(3, .ref (ad i)), (2, .int (nI i)), (0, .ref d), (1, .int day)]) hx hb dX1_entryOf_24 rfl hl (by decide) rfl (fun ls hl => ?_)
      refine lv_aload_n hx hb dX1_entryOf_25 rfl (lv_at hl 0 rfl) ?_
      refine gf hx hb hts hown hE lkX1_45 (hEs i x hx0) rfl dX1_entryOf_26 ?_
      refine lv_iload_n hx hb dX1_entryOf_29 rfl (lv_at hl 3 rfl) ?_
      refine lv_icmp_ne (tgt := 35) hx hb dX1_entryOf_30 (by decide) (fun c => ?_) (fun c => ?_)
      · refine lv_iinc (v := nI (i + 1)) (lv' := [(2, .int (nI (i + 1))), (3, .ref (ad i)), (0, .ref d), (1, .int day)]) hx hb dX1_entryOf_35 hl (k := 1) rfl (nI_1 i) (by decide) rfl (fun ls hl => ?_)
        refine lv_goto (tgt := 2) hx hb dX1_entryOf_38 (by decide) ?_
        exact ih (i + 1) ls hd2 (by omega) (he.trans (by simp only [ixL, if_neg c])) (lv_sub hl [0, 2, 3] rfl)
      · refine lv_aload_n hx hb dX1_entryOf_33 rfl (lv_at hl 0 rfl) ?_
        exact pA hx hb hr (Or.inl ⟨_, rfl⟩) (Or.inr ⟨_, rfl⟩) hlk hH (by rw [he]; simp only [ixL, if_pos c]; rfl) dX1_entryOf_34
  exact loop es 0 ls rfl (Nat.zero_le _) rfl (lv_sub hl [0, 1, 2] rfl)

set_option maxRecDepth 100000 in
set_option maxHeartbeats 4000000 in
/-- Diary.has -/
theorem c_has (E : ET) (d a : Nat) (ad : Nat → Nat) (es : Dy) (day : Int32) (H : Heap) (h : DRx E d a ad es H) : PCon E yX1_has cX1_has 2 (some FieldType.boolean) 5 [.ref d, .int day] H (some (.int (if dHas es day then 1 else 0))) := by
  refine PCon.of (C := RX1) rfl (by decide +kernel) (Nat.le_of_ble_eq_true rfl) ?_
  intro p e s m below meth co ls hx hb hr hlk hml hown hts hE hH hl
  have hl : lv_has ls 2 [(0, .ref d), (1, .int day)] := hl
  have hM := c_entryOf E d a ad es day H h
  obtain ⟨hO, hL, hEs⟩ := h
  obtain ⟨fs0, hOa, hcl⟩ := hL.ob
  cases hix : ixL day 0 es with
  | none =>
    rw [hix] at hM
    refine lv_aload_n hx hb dX1_has_0 rfl (lv_at hl 0 rfl) ?_
    refine lv_iload_n hx hb dX1_has_1 rfl (lv_at hl 1 rfl) ?_
    refine pV hx hb hml hts hown hE kwX1_22 hM hO rfl (Nat.le_of_ble_eq_true rfl) rfl hl.1 rfl (Nat.le_of_ble_eq_true rfl) (Nat.le_refl _) (Nat.le_refl _) dX1_has_2 ?_
    refine lv_ifnullN (tgt := 12) hx hb dX1_has_5 (by decide) ?_
    refine lv_iconst (v := 0) hx hb dX1_has_12 (by decide) ?_
    exact pZ hx hb hr hlk hH (by simp [dHas, hix]) dX1_has_13
  | some j =>
    rw [hix] at hM
    refine lv_aload_n hx hb dX1_has_0 rfl (lv_at hl 0 rfl) ?_
    refine lv_iload_n hx hb dX1_has_1 rfl (lv_at hl 1 rfl) ?_
    refine pV hx hb hml hts hown hE kwX1_22 hM hO rfl (Nat.le_of_ble_eq_true rfl) rfl hl.1 rfl (Nat.le_of_ble_eq_true rfl) (Nat.le_refl _) (Nat.le_refl _) dX1_has_2 ?_
    refine lv_ifnull hx hb dX1_has_5 ?_
    refine lv_iconst (v := 1) hx hb dX1_has_8 (by decide) ?_
    refine lv_goto (tgt := 13) hx hb dX1_has_9 (by decide) ?_
    exact pZ hx hb hr hlk hH (by simp [dHas, hix]) dX1_has_13

set_option maxRecDepth 100000 in
set_option maxHeartbeats 4000000 in
/-- Diary.count -/
theorem c_count (E : ET) (d a : Nat) (ad : Nat → Nat) (es : Dy) (H : Heap) (h : DRx E d a ad es H) : PCon E yX1_count cX1_count 1 (some FieldType.int) 2 [.ref d] H (some (.int (nI es.length))) := by
  refine PCon.of (C := RX1) rfl (by decide +kernel) (Nat.le_of_ble_eq_true rfl) ?_
  intro p e s m below meth co ls hx hb hr hlk hml hown hts hE hH hl
  have hl : lv_has ls 1 [(0, .ref d)] := hl
  obtain ⟨hO, hL, hEs⟩ := h
  obtain ⟨fs0, hOa, hcl⟩ := hL.ob
  refine lv_aload_n hx hb dX1_count_0 rfl (lv_at hl 0 rfl) ?_
  refine gf hx hb hts hown hE lkX1_12 hO rfl dX1_count_1 ?_
  refine pV hx hb hml hts hown hE kwX1_18 (c_size E a es.length ad H hL) hOa rfl (Nat.le_of_ble_eq_true rfl) rfl hl.1 rfl (Nat.le_of_ble_eq_true rfl) (Nat.le_refl _) (Nat.le_refl _) dX1_count_4 ?_
  exact pI hx hb hr hlk hH rfl dX1_count_7

set_option maxRecDepth 100000 in
set_option maxHeartbeats 4000000 in
/-- Diary.latestValue -/
theorem c_last (E : ET) (d a : Nat) (ad : Nat → Nat) (es : Dy) (day o : Int32) (H : Heap) (h : DRx E d a ad es H) : PCon E yX1_latestValue cX1_latestValue 7 (some FieldType.int) 4 [.ref d, .int day, .int o] H (some (.int (dLast es day o))) := by
  refine PCon.of (C := RX1) rfl (by decide +kernel) (Nat.le_of_ble_eq_true rfl) ?_
  intro p e s m below meth co ls hx hb hr hlk hml hown hts hE hH hl
  have hl : lv_has ls 7 [(0, .ref d), (1, .int day), (2, .int o)] := hl
  obtain ⟨hO, hL, hEs⟩ := h
  obtain ⟨fs0, hOa, hcl⟩ := hL.ob
  refine lv_iconst (v := (-1)) hx hb dX1_latestValue_0 (by decide) ?_
  refine lv_istore_n (lv' := [(3, .int (-1)), (0, .ref d), (1, .int day), (2, .int o)]) hx hb dX1_latestValue_1 rfl hl (by decide) rfl (fun ls hl => ?_)
  refine lv_iload_n hx hb dX1_latestValue_2 rfl (lv_at hl 3 rfl) ?_
  refine lv_istore (lv' := [(4, .int o), (3, .int (-1)), (0, .ref d), (1, .int day), (2, .int o)]) hx hb dX1_latestValue_3 hl (by decide) rfl (fun ls hl => ?_)
  refine lv_iconst (v := 0) hx hb dX1_latestValue_5 (by decide) ?_
  refine lv_istore (lv' := [(5, .int 0), (4, .int o), (3, .int (-1)), (0, .ref d), (1, .int day), (2, .int o)]) hx hb dX1_latestValue_6 hl (by decide) rfl (fun ls hl => ?_)
  have loop : ∀ (xs : Dy) (i : Nat) (lt v : Int32) (ls : Array Slot), es.drop i = xs → i ≤ es.length → dLast es day o = lvL day lt v xs → lv_has ls 7 [(5, .int (nI i)), (4, .int v), (3, .int lt), (0, .ref d), (1, .int day)] → W p (eL E) e (rmk 4 0 0) s m ([.ref d, .int day, .int o]).toArray below meth co H [] 0 0 (MQ below (PQ (some (.int (dLast es day o)))) ([.ref d, .int day, .int o]).toArray s 0 0 (fun _ => False)) (F0 m 8 ls []) := by
    intro xs
    induction xs with
    | nil =>
      intro i lt v ls hd hi he hl
      have hi2 := drop_n hd hi
      refine lv_iload hx hb dX1_latestValue_8 (lv_at hl 0 rfl) ?_
      refine lv_aload_n hx hb dX1_latestValue_10 rfl (lv_at hl 3 rfl) ?_
      refine gf hx hb hts hown hE lkX1_12 hO rfl dX1_latestValue_11 ?_
      refine pV hx hb hml hts hown hE kwX1_18 (c_size E a es.length ad H hL) hOa rfl (Nat.le_of_ble_eq_true rfl) rfl hl.1 rfl (Nat.le_of_ble_eq_true rfl) (Nat.le_refl _) (Nat.le_refl _) dX1_latestValue_14 ?_
      refine lv_icmp_ge (tgt := 71) hx hb dX1_latestValue_17 (by decide) (fun c => ?_) (fun c => ?_)
      rotate_left
      · exact absurd (nI_le (by omega) (by omega)) c
      refine lv_iload hx hb dX1_latestValue_71 (lv_at hl 1 rfl) ?_
      exact pI hx hb hr hlk hH (by rw [he]; rfl) dX1_latestValue_73
    | cons x xs ih =>
      intro i lt v ls hd hi he hl
      obtain ⟨hx0, hlt, hd2⟩ := drop_c hd
      refine lv_iload hx hb dX1_latestValue_8 (lv_at hl 0 rfl) ?_
      refine lv_aload_n hx hb dX1_latestValue_10 rfl (lv_at hl 3 rfl) ?_
      refine gf hx hb hts hown hE lkX1_12 hO rfl dX1_latestValue_11 ?_
      refine pV hx hb hml hts hown hE kwX1_18 (c_size E a es.length ad H hL) hOa rfl (Nat.le_of_ble_eq_true rfl) rfl hl.1 rfl (Nat.le_of_ble_eq_true rfl) (Nat.le_refl _) (Nat.le_refl _) dX1_latestValue_14 ?_
      refine lv_icmp_ge (tgt := 71) hx hb dX1_latestValue_17 (by decide) (fun c => ?_) (fun c => ?_)
      · exact absurd c (nI_ge hlt (by omega))
      refine lv_aload_n hx hb dX1_latestValue_20 rfl (lv_at hl 3 rfl) ?_
      refine gf hx hb hts hown hE lkX1_12 hO rfl dX1_latestValue_21 ?_
      refine lv_iload hx hb dX1_latestValue_24 (lv_at hl 0 rfl) ?_
      refine pV hx hb hml hts hown hE kwX1_41 (c_get E a es.length i ad H hL hlt) hOa rfl (Nat.le_of_ble_eq_true rfl) rfl hl.1 rfl (Nat.le_of_ble_eq_true rfl) (Nat.le_refl _) (Nat.le_refl _) dX1_latestValue_26 ?_
      refine cst hx hb hts hown hE qw1_217 (hEs i x hx0) rfl dX1_latestValue_29 ?_
      refine lv_astore (lv' := [(6, .ref (ad i)), (5, .int (nI i)), (4, .int v), (3, .int lt), (0, .ref d), (1, .int day)]) hx hb dX1_latestValue_32 hl (by decide) rfl (fun ls hl => ?_)
      refine lv_aload hx hb dX1_latestValue_34 (lv_at hl 0 rfl) ?_
      refine gf hx hb hts hown hE lkX1_45 (hEs i x hx0) rfl dX1_latestValue_36 ?_
      refine lv_iload_n hx hb dX1_latestValue_39 rfl (lv_at hl 5 rfl) ?_
      refine lv_icmp_gt (tgt := 65) hx hb dX1_latestValue_40 (by decide) (fun c => ?_) (fun c => ?_)
      · refine lv_iinc (v := nI (i + 1)) (lv' := [(5, .int (nI (i + 1))), (6, .ref (ad i)), (4, .int v), (3, .int lt), (0, .ref d), (1, .int day)]) hx hb dX1_latestValue_65 hl (k := 1) rfl (nI_1 i) (by decide) rfl (fun ls hl => ?_)
        refine lv_goto (tgt := 8) hx hb dX1_latestValue_68 (by decide) ?_
        exact ih (i + 1) lt v ls hd2 (by omega) (he.trans (by simp only [lvL]; rw [if_neg (fun q => absurd q.1 (Int32.not_le.mpr c))])) (lv_sub hl [0, 2, 3, 4, 5] rfl)
      · refine lv_aload hx hb dX1_latestValue_43 (lv_at hl 0 rfl) ?_
        refine gf hx hb hts hown hE lkX1_45 (hEs i x hx0) rfl dX1_latestValue_45 ?_
        refine lv_iload_n hx hb dX1_latestValue_48 rfl (lv_at hl 3 rfl) ?_
        refine lv_icmp_lt (tgt := 65) hx hb dX1_latestValue_49 (by decide) (fun c2 => ?_) (fun c2 => ?_)
        · refine lv_iinc (v := nI (i + 1)) (lv' := [(5, .int (nI (i + 1))), (6, .ref (ad i)), (4, .int v), (3, .int lt), (0, .ref d), (1, .int day)]) hx hb dX1_latestValue_65 hl (k := 1) rfl (nI_1 i) (by decide) rfl (fun ls hl => ?_)
          refine lv_goto (tgt := 8) hx hb dX1_latestValue_68 (by decide) ?_
          exact ih (i + 1) lt v ls hd2 (by omega) (he.trans (by simp only [lvL]; rw [if_neg (fun q => absurd q.2 (Int32.not_le.mpr c2))])) (lv_sub hl [0, 2, 3, 4, 5] rfl)
        · refine lv_aload hx hb dX1_latestValue_52 (lv_at hl 0 rfl) ?_
          refine gf hx hb hts hown hE lkX1_45 (hEs i x hx0) rfl dX1_latestValue_54 ?_
          refine lv_istore_n (lv' := [(3, .int x.1), (6, .ref (ad i)), (5, .int (nI i)), (4, .int v), (0, .ref d), (1, .int day)]) hx hb dX1_latestValue_57 rfl hl (by decide) rfl (fun ls hl => ?_)
          refine lv_aload hx hb dX1_latestValue_58 (lv_at hl 1 rfl) ?_
          refine gf hx hb hts hown hE lkX1_37 (hEs i x hx0) rfl dX1_latestValue_60 ?_
          refine lv_istore (lv' := [(4, .int x.2), (3, .int x.1), (6, .ref (ad i)), (5, .int (nI i)), (0, .ref d), (1, .int day)]) hx hb dX1_latestValue_63 hl (by decide) rfl (fun ls hl => ?_)
          refine lv_iinc (v := nI (i + 1)) (lv' := [(5, .int (nI (i + 1))), (4, .int x.2), (3, .int x.1), (6, .ref (ad i)), (0, .ref d), (1, .int day)]) hx hb dX1_latestValue_65 hl (k := 3) rfl (nI_1 i) (by decide) rfl (fun ls hl => ?_)
          refine lv_goto (tgt := 8) hx hb dX1_latestValue_68 (by decide) ?_
          exact ih (i + 1) x.1 x.2 ls hd2 (by omega) (he.trans (by simp only [lvL]; rw [if_pos ⟨Int32.not_lt.mp c, Int32.not_lt.mp c2⟩])) (lv_sub hl [0, 1, 2, 4, 5] rfl)
  exact loop es 0 (-1) o ls rfl (Nat.zero_le _) rfl (lv_sub hl [0, 1, 2, 3, 4] rfl)

set_option maxRecDepth 100000 in
set_option maxHeartbeats 4000000 in
/-- Diary.sumUntil -/
theorem c_sum (E : ET) (d a : Nat) (ad : Nat → Nat) (es : Dy) (day : Int32) (H : Heap) (h : DRx E d a ad es H) : PCon E yX1_sumUntil cX1_sumUntil 5 (some FieldType.int) 4 [.ref d, .int day] H (some (.int (dSum es day))) := by
  refine PCon.of (C := RX1) rfl (by decide +kernel) (Nat.le_of_ble_eq_true rfl) ?_
  intro p e s m below meth co ls hx hb hr hlk hml hown hts hE hH hl
  have hl : lv_has ls 5 [(0, .ref d), (1, .int day)] := hl
  obtain ⟨hO, hL, hEs⟩ := h
  obtain ⟨fs0, hOa, hcl⟩ := hL.ob
  refine lv_iconst (v := 0) hx hb dX1_sumUntil_0 (by decide) ?_
  refine lv_istore_n (lv' := [(2, .int 0), (0, .ref d), (1, .int day)]) hx hb dX1_sumUntil_1 rfl hl (by decide) rfl (fun ls hl => ?_)
  refine lv_iconst (v := 0) hx hb dX1_sumUntil_2 (by decide) ?_
  refine lv_istore_n (lv' := [(3, .int 0), (2, .int 0), (0, .ref d), (1, .int day)]) hx hb dX1_sumUntil_3 rfl hl (by decide) rfl (fun ls hl => ?_)
  have loop : ∀ (xs : Dy) (i : Nat) (v : Int32) (ls : Array Slot), es.drop i = xs → i ≤ es.length → dSum es day = smL day v xs → lv_has ls 5 [(3, .int (nI i)), (2, .int v), (0, .ref d), (1, .int day)] → W p (eL E) e (rmk 4 0 0) s m ([.ref d, .int day]).toArray below meth co H [] 0 0 (MQ below (PQ (some (.int (dSum es day)))) ([.ref d, .int day]).toArray s 0 0 (fun _ => False)) (F0 m 4 ls []) := by
    intro xs
    induction xs with
    | nil =>
      intro i v ls hd hi he hl
      have hi2 := drop_n hd hi
      refine lv_iload_n hx hb dX1_sumUntil_4 rfl (lv_at hl 0 rfl) ?_
      refine lv_aload_n hx hb dX1_sumUntil_5 rfl (lv_at hl 2 rfl) ?_
      refine gf hx hb hts hown hE lkX1_12 hO rfl dX1_sumUntil_6 ?_
      refine pV hx hb hml hts hown hE kwX1_18 (c_size E a es.length ad H hL) hOa rfl (Nat.le_of_ble_eq_true rfl) rfl hl.1 rfl (Nat.le_of_ble_eq_true rfl) (Nat.le_refl _) (Nat.le_refl _) dX1_sumUntil_9 ?_
      refine lv_icmp_ge (tgt := 51) hx hb dX1_sumUntil_12 (by decide) (fun c => ?_) (fun c => ?_)
      rotate_left
      · exact absurd (nI_le (by omega) (by omega)) c
      refine lv_iload_n hx hb dX1_sumUntil_51 rfl (lv_at hl 1 rfl) ?_
      exact pI hx hb hr hlk hH (by rw [he]; rfl) dX1_sumUntil_52
    | cons x xs ih =>
      intro i v ls hd hi he hl
      obtain ⟨hx0, hlt, hd2⟩ := drop_c hd
      refine lv_iload_n hx hb dX1_sumUntil_4 rfl (lv_at hl 0 rfl) ?_
      refine lv_aload_n hx hb dX1_sumUntil_5 rfl (lv_at hl 2 rfl) ?_
      refine gf hx hb hts hown hE lkX1_12 hO rfl dX1_sumUntil_6 ?_
      refine pV hx hb hml hts hown hE kwX1_18 (c_size E a es.length ad H hL) hOa rfl (Nat.le_of_ble_eq_true rfl) rfl hl.1 rfl (Nat.le_of_ble_eq_true rfl) (Nat.le_refl _) (Nat.le_refl _) dX1_sumUntil_9 ?_
      refine lv_icmp_ge (tgt := 51) hx hb dX1_sumUntil_12 (by decide) (fun c => ?_) (fun c => ?_)
      · exact absurd c (nI_ge hlt (by omega))
      refine lv_aload_n hx hb dX1_sumUntil_15 rfl (lv_at hl 2 rfl) ?_
      refine gf hx hb hts hown hE lkX1_12 hO rfl dX1_sumUntil_16 ?_
      refine lv_iload_n hx hb dX1_sumUntil_19 rfl (lv_at hl 0 rfl) ?_
      refine pV hx hb hml hts hown hE kwX1_41 (c_get E a es.length i ad H hL hlt) hOa rfl (Nat.le_of_ble_eq_true rfl) rfl hl.1 rfl (Nat.le_of_ble_eq_true rfl) (Nat.le_refl _) (Nat.le_refl _) dX1_sumUntil_20 ?_
      refine cst hx hb hts hown hE qw1_217 (hEs i x hx0) rfl dX1_sumUntil_23 ?_
      refine lv_astore (lv' := [(4, .ref (ad i)), (3, .int (nI i)), (2, .int v), (0, .ref d), (1, .int day)]) hx hb dX1_sumUntil_26 hl (by decide) rfl (fun ls hl => ?_)
      refine lv_aload hx hb dX1_sumUntil_28 (lv_at hl 0 rfl) ?_
      refine gf hx hb hts hown hE lkX1_45 (hEs i x hx0) rfl dX1_sumUntil_30 ?_
      refine lv_iload_n hx hb dX1_sumUntil_33 rfl (lv_at hl 4 rfl) ?_
      refine lv_icmp_gt (tgt := 45) hx hb dX1_sumUntil_34 (by decide) (fun c => ?_) (fun c => ?_)
      · refine lv_iinc (v := nI (i + 1)) (lv' := [(3, .int (nI (i + 1))), (4, .ref (ad i)), (2, .int v), (0, .ref d), (1, .int day)]) hx hb dX1_sumUntil_45 hl (k := 1) rfl (nI_1 i) (by decide) rfl (fun ls hl => ?_)
        refine lv_goto (tgt := 4) hx hb dX1_sumUntil_48 (by decide) ?_
        exact ih (i + 1) v ls hd2 (by omega) (he.trans (by simp only [smL]; rw [if_neg (Int32.not_le.mpr c)])) (lv_sub hl [0, 2, 3, 4] rfl)
      · refine lv_iload_n hx hb dX1_sumUntil_37 rfl (lv_at hl 2 rfl) ?_
        refine lv_aload hx hb dX1_sumUntil_38 (lv_at hl 0 rfl) ?_
        refine gf hx hb hts hown hE lkX1_37 (hEs i x hx0) rfl dX1_sumUntil_40 ?_
        refine lv_iadd hx hb dX1_sumUntil_43 ?_
        refine lv_istore_n (lv' := [(2, .int (v + x.2)), (4, .ref (ad i)), (3, .int (nI i)), (0, .ref d), (1, .int day)]) hx hb dX1_sumUntil_44 rfl hl (by decide) rfl (fun ls hl => ?_)
        refine lv_iinc (v := nI (i + 1)) (lv' := [(3, .int (nI (i + 1))), (2, .int (v + x.2)), (4, .ref (ad i)), (0, .ref d), (1, .int day)]) hx hb dX1_sumUntil_45 hl (k := 2) rfl (nI_1 i) (by decide) rfl (fun ls hl => ?_)
        refine lv_goto (tgt := 4) hx hb dX1_sumUntil_48 (by decide) ?_
        exact ih (i + 1) (v + x.2) ls hd2 (by omega) (he.trans (by simp only [smL]; rw [if_pos (Int32.not_lt.mp c)])) (lv_sub hl [0, 1, 3, 4] rfl)
  exact loop es 0 0 ls rfl (Nat.zero_le _) rfl (lv_sub hl [0, 1, 2, 3] rfl)
end
section
set_option maxRecDepth 100000 in
set_option maxHeartbeats 4000000 in
/-- Math.floorMod(d, 7) -/
theorem c_fmod (E : ET) (d : Nat) (H : Heap) (hd : d < 2 ^ 31) : PCon E yJ9_floorMod_7cf53 cJ9_floorMod_7cf53 3 (some FieldType.int) 1 [.int (nI d), .int 7] H (some (.int (nI (d % 7)))) := by
  refine PCon.ofF (C := RJ9) rfl (by decide +kernel) (Nat.le_of_ble_eq_true rfl) ?_
  intro p e s m below meth co ls hx hb hr hlk hml hown hts hE hH hl
  have hl : lv_has ls 3 [(0, .int (nI d)), (1, .int 7)] := hl
  refine lv_iload_n hx hb dJ9_floorMod_7cf53_0 rfl (lv_at hl 0 rfl) ?_
  refine lv_iload_n hx hb dJ9_floorMod_7cf53_1 rfl (lv_at hl 1 rfl) ?_
  refine lv_irem hx hb dJ9_floorMod_7cf53_2 (by decide) ?_
  have hr7 : nI d - nI d / 7 * 7 = nI (d % 7) := pk_rem hd (by decide) (by decide)
  refine lv_istore_n (lv' := [(2, .int (nI d - nI d / 7 * 7)), (0, .int (nI d)), (1, .int 7)]) hx hb dJ9_floorMod_7cf53_3 rfl hl (by decide) rfl (fun ls hl => ?_)
  refine lv_iload_n hx hb dJ9_floorMod_7cf53_4 rfl (lv_at hl 1 rfl) ?_
  refine lv_iload_n hx hb dJ9_floorMod_7cf53_5 rfl (lv_at hl 2 rfl) ?_
  refine lv_ixor hx hb dJ9_floorMod_7cf53_6 ?_
  refine lv_if_ge (tgt := 18) hx hb dJ9_floorMod_7cf53_7 (by decide) (fun c => ?_) (fun c => ?_)
  rotate_left
  · exact absurd (xor_pos hd) c
  refine lv_iload_n hx hb dJ9_floorMod_7cf53_18 rfl (lv_at hl 0 rfl) ?_
  exact pI hx hb hr hlk hH hr7 dJ9_floorMod_7cf53_19

set_option maxRecDepth 100000 in
set_option maxHeartbeats 4000000 in
/-- Math.floorDiv(x, 3600000) -/
theorem c_fdiv (E : ET) (x : Int64) (H : Heap) : PCon E yJ9_floorDiv_f86c9 cJ9_floorDiv_f86c9 6 (some FieldType.long) 1 [.long x, .long 3600000] H (some (.long (flo x))) := by
  refine PCon.ofF (C := RJ9) rfl (by decide +kernel) (Nat.le_of_ble_eq_true rfl) ?_
  intro p e s m below meth co ls hx hb hr hlk hml hown hts hE hH hl
  have hl : lv_has ls 6 [(0, .long x), (2, .long 3600000)] := hl
  refine lv_lload_n hx hb dJ9_floorDiv_f86c9_0 rfl (lv_at hl 0 rfl) ?_
  refine lv_lload_n hx hb dJ9_floorDiv_f86c9_1 rfl (lv_at hl 1 rfl) ?_
  refine lv_ldiv hx hb dJ9_floorDiv_f86c9_2 (by decide) ?_
  refine lv_lstore (lv' := [(4, .long (x / 3600000)), (0, .long x), (2, .long 3600000)]) hx hb dJ9_floorDiv_f86c9_3 hl (by decide) rfl (fun ls hl => ?_)
  refine lv_lload_n hx hb dJ9_floorDiv_f86c9_5 rfl (lv_at hl 1 rfl) ?_
  refine lv_lload_n hx hb dJ9_floorDiv_f86c9_6 rfl (lv_at hl 2 rfl) ?_
  refine lv_lxor hx hb dJ9_floorDiv_f86c9_7 ?_
  refine lv_lconst (v := 0) hx hb dJ9_floorDiv_f86c9_8 (by decide) ?_
  refine W.lcmp hx hb dJ9_floorDiv_f86c9_9 ?_
  refine lv_if_ge (tgt := 27) hx hb dJ9_floorDiv_f86c9_10 (by decide) (fun c => ?_) (fun c => ?_)
  · refine lv_lload hx hb dJ9_floorDiv_f86c9_27 (lv_at hl 0 rfl) ?_
    exact pL hx hb hr hlk hH (flo_a c) dJ9_floorDiv_f86c9_29
  · refine lv_lload hx hb dJ9_floorDiv_f86c9_13 (lv_at hl 0 rfl) ?_
    refine lv_lload_n hx hb dJ9_floorDiv_f86c9_15 rfl (lv_at hl 2 rfl) ?_
    refine lv_lmul hx hb dJ9_floorDiv_f86c9_16 ?_
    refine lv_lload_n hx hb dJ9_floorDiv_f86c9_17 rfl (lv_at hl 1 rfl) ?_
    refine W.lcmp hx hb dJ9_floorDiv_f86c9_18 ?_
    refine lv_if_eq (tgt := 27) hx hb dJ9_floorDiv_f86c9_19 (by decide) (fun c2 => ?_) (fun c2 => ?_)
    · refine lv_lload hx hb dJ9_floorDiv_f86c9_27 (lv_at hl 0 rfl) ?_
      exact pL hx hb hr hlk hH (flo_b c2) dJ9_floorDiv_f86c9_29
    · refine lv_lload hx hb dJ9_floorDiv_f86c9_22 (lv_at hl 0 rfl) ?_
      refine lv_lconst (v := 1) hx hb dJ9_floorDiv_f86c9_24 (by decide) ?_
      refine lv_lsub hx hb dJ9_floorDiv_f86c9_25 ?_
      exact pL hx hb hr hlk hH (flo_c c c2) dJ9_floorDiv_f86c9_26
end
section
/-! days, trades -/
def opn (h0 h1 : Dy) (d : Nat) : Bool := decide (d % 7 < 5) && (!dHas h0 (nI d) && !dHas h1 (nI d))
def rolF (h0 h1 : Dy) : Nat → Nat → Nat
  | 0, d => d
  | n + 1, d => if opn h0 h1 d then d else rolF h0 h1 n (d + 1)
/-- the rolled day -/
def rol (h0 h1 : Dy) (d : Nat) : Nat := rolF h0 h1 1000 d
theorem rolF_ge (h0 h1 : Dy) : ∀ n d, d ≤ rolF h0 h1 n d ∧ rolF h0 h1 n d ≤ d + n
  | 0, d => ⟨Nat.le_refl _, Nat.le_refl _⟩
  | n + 1, d => by
    unfold rolF
    by_cases c : opn h0 h1 d = true
    · rw [if_pos c]; omega
    · rw [if_neg c]
      have := rolF_ge h0 h1 n (d + 1)
      omega
/-- a trade: its terms by their places (party, lots, paysFixed, fixed, first, length, periods, spread, dayCount, compounding), its breaks, its handovers -/
abbrev TR : Type := (Nat → Int32) × Dy × Dy
def dys (T : Nat → Int32) (bf : Nat → Int32) (k : Nat) : Int64 := if T 8 = 0 then (bf (k + 1) - bf k).toInt64 else (T 5).toInt64
def rte (fx : Dy) (bf : Nat → Int32) (k : Nat) : Int64 := (dLast fx (bf k) 0).toInt64
/-- what was compounded, and the floating interest of the last period, behind k periods -/
def flS (T : Nat → Int32) (bf : Nat → Int32) (fx : Dy) : Nat → Int64 × Int64
  | 0 => (0, 0)
  | k + 1 =>
    let r := rte fx bf k
    let g := flo ((3600000 + (flS T bf fx k).1) * (if T 9 = 1 then r + (T 7).toInt64 else r) * dys T bf k)
    ((flS T bf fx k).1 + g, if T 9 = 0 then (r + (T 7).toInt64) * dys T bf k else if T 9 = 1 then g else g + (T 7).toInt64 * dys T bf k)
def fltS (T : Nat → Int32) (bf : Nat → Int32) (fx : Dy) (k : Nat) : Int64 := (flS T bf fx (k + 1)).2
def lotS (T : Nat → Int32) (bs : Dy) (bf : Nat → Int32) (k : Nat) : Int32 := T 1 - dSum bs (bf k)
def rstS (T : Nat → Int32) (bs : Dy) : Int32 := T 1 - dSum bs 3000
def hldS (T : Nat → Int32) (hs : Dy) (day : Int32) : Int32 := dLast hs day (T 0)
def gnS (T : Nat → Int32) (bf : Nat → Int32) (fx : Dy) (k : Nat) : Int64 := fltS T bf fx k - (T 3).toInt64 * dys T bf k
def flwS (T : Nat → Int32) (bs : Dy) (bf : Nat → Int32) (fx : Dy) (k : Nat) : Int64 := (lotS T bs bf k).toInt64 * (if T 2 = 0 then -(gnS T bf fx k) else gnS T bf fx k)
/-- the flows of the first k periods that are paid from one day to another while the trade is of the party -/
def cshS (T : Nat → Int32) (bs hs : Dy) (bf : Nat → Int32) (fx : Dy) (pa d1 d2 : Int32) : Nat → Int64
  | 0 => 0
  | k + 1 => if d1 ≤ bf (k + 1) ∧ bf (k + 1) ≤ d2 ∧ hldS T hs (bf (k + 1)) = pa then cshS T bs hs bf fx pa d1 d2 k + flwS T bs bf fx k else cshS T bs hs bf fx pa d1 d2 k
/-- the first pay day, from a day on, of r periods from k on, while the trade is of the party; -1 if there is none -/
def npS (T : Nat → Int32) (hs : Dy) (bf : Nat → Int32) (pa day : Int32) : Nat → Nat → Int32
  | 0, _ => -1
  | r + 1, k => if day ≤ bf (k + 1) ∧ hldS T hs (bf (k + 1)) = pa then bf (k + 1) else npS T hs bf pa day r (k + 1)
def fitS (T U : Nat → Int32) : Bool := decide (¬ T 2 = U 2) && (decide (T 3 = U 3) && (decide (T 7 = U 7) && (decide (T 4 = U 4) && (decide (T 5 = U 5) && (decide (T 6 = U 6) && (decide (T 8 = U 8) && decide (T 9 = U 9)))))))
/-- of the first k periods: does one start on the day or later; are all such paid while both trades are of one party -/
def smpS (T U : Nat → Int32) (hs hu : Dy) (bf : Nat → Int32) (day : Int32) : Nat → Bool × Bool
  | 0 => (false, true)
  | k + 1 => if day ≤ bf k then (true, (smpS T U hs hu bf day k).2 && decide (hldS T hs (bf (k + 1)) = hldS U hu (bf (k + 1)))) else smpS T U hs hu bf day k
def smeS (T U : Nat → Int32) (hs hu : Dy) (bf : Nat → Int32) (day : Int32) (n : Nat) : Bool := (smpS T U hs hu bf day n).1 && (smpS T U hs hu bf day n).2
theorem smpS_f {T U : Nat → Int32} {hs hu : Dy} {bf : Nat → Int32} {day : Int32} {k : Nat} (h : (smpS T U hs hu bf day k).2 = false) : ∀ n, k ≤ n → (smpS T U hs hu bf day n).2 = false := by
  intro n hn
  induction n with
  | zero => cases Nat.le_zero.mp hn; exact h
  | succ n ih =>
    rcases Nat.lt_or_ge k (n + 1) with q | q
    · have := ih (by omega)
      unfold smpS
      by_cases c : day ≤ bf n
      · rw [if_pos c]; simp [this]
      · rw [if_neg c]; exact this
    · cases Nat.le_antisymm hn q; exact h
/-- a calendar at q, a trade at w -/
def CR (E : ET) (q : Nat) (h0 h1 : Dy) (H : Heap) : Prop := ∃ d0 d1, OB E 1 [.ref d0, .ref d1] q H ∧ DR E d0 h0 H ∧ DR E d1 h1 H
abbrev tfs (T : Nat → Int32) (db dh bd : Nat) : List Value := [.int (T 0), .int (T 1), .int (T 2), .int (T 3), .int (T 4), .int (T 5), .int (T 6), .int (T 7), .int (T 8), .int (T 9), .ref db, .ref dh, .ref bd]
def SRx (E : ET) (w : Nat) (T : Nat → Int32) (db dh bd : Nat) (bf : Nat → Int32) (bs hs : Dy) (H : Heap) : Prop := OB E 4 (tfs T db dh bd) w H ∧ DR E db bs H ∧ DR E dh hs H ∧ IA E 11 bf bd H
end
section
set_option maxRecDepth 100000 in
set_option maxHeartbeats 4000000 in
/-- Calendar.opensOn -/
theorem c_opensOn (E : ET) (q d : Nat) (h0 h1 : Dy) (H : Heap) (hd : d < 2 ^ 31) (h : CR E q h0 h1 H) : PCon E yX0_opensOn cX0_opensOn 2 (some FieldType.boolean) 6 [.ref q, .int (nI d)] H (some (.int (if opn h0 h1 d then 1 else 0))) := by
  refine PCon.of (C := RX0) rfl (by decide +kernel) (Nat.le_of_ble_eq_true rfl) ?_
  intro p e s m below meth co ls hx hb hr hlk hml hown hts hE hH hl
  have hl : lv_has ls 2 [(0, .ref q), (1, .int (nI d))] := hl
  obtain ⟨d0, d1, hO, ⟨a0, ad0, hd0⟩, ⟨a1, ad1, hd1⟩⟩ := h
  refine lv_iload_n hx hb dX0_opensOn_0 rfl (lv_at hl 1 rfl) ?_
  refine lv_bipush (v := 7) hx hb dX0_opensOn_1 (by decide) ?_
  refine pS hx hb hml hts hown hE kwX0_21 (c_fmod E d H hd) (Nat.le_of_ble_eq_true rfl) rfl hl.1 rfl (Nat.le_of_ble_eq_true rfl) (Nat.le_refl _) (Nat.le_refl _) dX0_opensOn_3 ?_
  refine lv_iconst (v := 5) hx hb dX0_opensOn_6 (by decide) ?_
  refine lv_icmp_ge (tgt := 36) hx hb dX0_opensOn_7 (by decide) (fun c => ?_) (fun c => ?_)
  · refine lv_iconst (v := 0) hx hb dX0_opensOn_36 (by decide) ?_
    exact pZ hx hb hr hlk hH (by rw [opn, decide_eq_false (fun q => absurd ((nI_leI (a := 5) (b := d % 7) (by decide) (by omega)).mp c) (by omega))]; rfl) dX0_opensOn_37
  · have c5 : d % 7 < 5 := by
      rcases Nat.lt_or_ge (d % 7) 5 with q | q
      · exact q
      · exact absurd ((nI_leI (a := 5) (b := d % 7) (by decide) (by omega)).mpr q) c
    refine lv_aload_n hx hb dX0_opensOn_10 rfl (lv_at hl 0 rfl) ?_
    refine gf hx hb hts hown hE lkX0_12 hO rfl dX0_opensOn_11 ?_
    refine lv_iload_n hx hb dX0_opensOn_14 rfl (lv_at hl 1 rfl) ?_
    have hM := c_has E d0 a0 ad0 h0 (nI d) H hd0
    refine pV hx hb hml hts hown hE kwX0_27 hM hd0.1 rfl (Nat.le_of_ble_eq_true rfl) rfl hl.1 rfl (Nat.le_of_ble_eq_true rfl) (Nat.le_refl _) (Nat.le_refl _) dX0_opensOn_15 ?_
    cases x0 : dHas h0 (nI d) with
    | true =>
      refine lv_if_ne (tgt := 36) hx hb dX0_opensOn_18 (by decide) (fun c2 => ?_) (fun c2 => ?_)
      rotate_left
      · exact absurd c2 (by decide)
      refine lv_iconst (v := 0) hx hb dX0_opensOn_36 (by decide) ?_
      exact pZ hx hb hr hlk hH (by simp [opn, x0]) dX0_opensOn_37
    | false =>
      refine lv_if_ne (tgt := 36) hx hb dX0_opensOn_18 (by decide) (fun c2 => ?_) (fun c2 => ?_)
      · exact absurd (by decide) c2
      refine lv_aload_n hx hb dX0_opensOn_21 rfl (lv_at hl 0 rfl) ?_
      refine gf hx hb hts hown hE lkX0_18 hO rfl dX0_opensOn_22 ?_
      refine lv_iload_n hx hb dX0_opensOn_25 rfl (lv_at hl 1 rfl) ?_
      have hM2 := c_has E d1 a1 ad1 h1 (nI d) H hd1
      refine pV hx hb hml hts hown hE kwX0_27 hM2 hd1.1 rfl (Nat.le_of_ble_eq_true rfl) rfl hl.1 rfl (Nat.le_of_ble_eq_true rfl) (Nat.le_refl _) (Nat.le_refl _) dX0_opensOn_26 ?_
      cases x1 : dHas h1 (nI d) with
      | true =>
        refine lv_if_ne (tgt := 36) hx hb dX0_opensOn_29 (by decide) (fun c3 => ?_) (fun c3 => ?_)
        rotate_left
        · exact absurd c3 (by decide)
        refine lv_iconst (v := 0) hx hb dX0_opensOn_36 (by decide) ?_
        exact pZ hx hb hr hlk hH (by simp [opn, x1]) dX0_opensOn_37
      | false =>
        refine lv_if_ne (tgt := 36) hx hb dX0_opensOn_29 (by decide) (fun c3 => ?_) (fun c3 => ?_)
        · exact absurd (by decide) c3
        refine lv_iconst (v := 1) hx hb dX0_opensOn_32 (by decide) ?_
        refine lv_goto (tgt := 37) hx hb dX0_opensOn_33 (by decide) ?_
        exact pZ hx hb hr hlk hH (by simp [opn, x0, x1, c5]) dX0_opensOn_37

set_option maxRecDepth 100000 in
set_option maxHeartbeats 4000000 in
/-- Calendar.rolledDayOf -/
theorem c_rol (E : ET) (q d : Nat) (h0 h1 : Dy) (H : Heap) (hd : d < 2 ^ 30) (h : CR E q h0 h1 H) : PCon E yX0_rolledDayOf cX0_rolledDayOf 4 (some FieldType.int) 7 [.ref q, .int (nI d)] H (some (.int (nI (rol h0 h1 d)))) := by
  refine PCon.of (C := RX0) rfl (by decide +kernel) (Nat.le_of_ble_eq_true rfl) ?_
  intro p e s m below meth co ls hx hb hr hlk hml hown hts hE hH hl
  have hl : lv_has ls 4 [(0, .ref q), (1, .int (nI d))] := hl
  have hO := h
  obtain ⟨d0, d1, hO, hd0, hd1⟩ := hO
  refine lv_iload_n hx hb dX0_rolledDayOf_0 rfl (lv_at hl 1 rfl) ?_
  refine lv_istore_n (lv' := [(2, .int (nI d)), (0, .ref q), (1, .int (nI d))]) hx hb dX0_rolledDayOf_1 rfl hl (by decide) rfl (fun ls hl => ?_)
  refine lv_iconst (v := 0) hx hb dX0_rolledDayOf_2 (by decide) ?_
  refine lv_istore_n (lv' := [(3, .int 0), (2, .int (nI d)), (0, .ref q), (1, .int (nI d))]) hx hb dX0_rolledDayOf_3 rfl hl (by decide) rfl (fun ls hl => ?_)
  have loop : ∀ (n i r : Nat) (ls : Array Slot), i + n = 1000 → r = d + i → rol h0 h1 d = rolF h0 h1 n r → lv_has ls 4 [(3, .int (nI i)), (2, .int (nI r)), (0, .ref q), (1, .int (nI d))] → W p (eL E) e (rmk 7 0 0) s m ([.ref q, .int (nI d)]).toArray below meth co H [] 0 0 (MQ below (PQ (some (.int (nI (rol h0 h1 d))))) ([.ref q, .int (nI d)]).toArray s 0 0 (fun _ => False)) (F0 m 4 ls []) := by
    intro n
    induction n with
    | zero =>
      intro i r ls hi hr2 he hl
      have hi2 : i = 1000 := by omega
      subst hi2
      refine lv_iload_n hx hb dX0_rolledDayOf_4 rfl (lv_at hl 0 rfl) ?_
      refine lv_sipush (v := 1000) hx hb dX0_rolledDayOf_5 (by decide) ?_
      refine lv_icmp_ge (tgt := 28) hx hb dX0_rolledDayOf_8 (by decide) (fun c => ?_) (fun c => ?_)
      rotate_left
      · exact absurd (nI_le (a := 1000) (b := 1000) (by decide) (by decide)) c
      refine lv_iload_n hx hb dX0_rolledDayOf_28 rfl (lv_at hl 1 rfl) ?_
      exact pI hx hb hr hlk hH (by rw [he]; rfl) dX0_rolledDayOf_29
    | succ n ih =>
      intro i r ls hi hr2 he hl
      refine lv_iload_n hx hb dX0_rolledDayOf_4 rfl (lv_at hl 0 rfl) ?_
      refine lv_sipush (v := 1000) hx hb dX0_rolledDayOf_5 (by decide) ?_
      refine lv_icmp_ge (tgt := 28) hx hb dX0_rolledDayOf_8 (by decide) (fun c => ?_) (fun c => ?_)
      · exact absurd c (nI_ge (b := 1000) (by omega) (by decide))
      refine lv_aload_n hx hb dX0_rolledDayOf_11 rfl (lv_at hl 2 rfl) ?_
      refine lv_iload_n hx hb dX0_rolledDayOf_12 rfl (lv_at hl 1 rfl) ?_
      refine pV hx hb hml hts hown hE kwX0_31 (c_opensOn E q r h0 h1 H (by omega) h) hO rfl (Nat.le_of_ble_eq_true rfl) rfl hl.1 rfl (Nat.le_of_ble_eq_true rfl) (Nat.le_refl _) (Nat.le_refl _) dX0_rolledDayOf_13 ?_
      cases x0 : opn h0 h1 r with
      | true =>
        refine lv_if_ne (tgt := 28) hx hb dX0_rolledDayOf_16 (by decide) (fun c3 => ?_) (fun c3 => ?_)
        rotate_left
        · exact absurd c3 (by decide)
        refine lv_iload_n hx hb dX0_rolledDayOf_28 rfl (lv_at hl 1 rfl) ?_
        exact pI hx hb hr hlk hH (by rw [he]; simp [rolF, x0]) dX0_rolledDayOf_29
      | false =>
        refine lv_if_ne (tgt := 28) hx hb dX0_rolledDayOf_16 (by decide) (fun c3 => ?_) (fun c3 => ?_)
        · exact absurd (by decide) c3
        refine lv_iinc (v := nI (r + 1)) (lv' := [(2, .int (nI (r + 1))), (3, .int (nI i)), (0, .ref q), (1, .int (nI d))]) hx hb dX0_rolledDayOf_19 hl (k := 1) rfl (nI_1 r) (by decide) rfl (fun ls hl => ?_)
        refine lv_iinc (v := nI (i + 1)) (lv' := [(3, .int (nI (i + 1))), (2, .int (nI (r + 1))), (0, .ref q), (1, .int (nI d))]) hx hb dX0_rolledDayOf_22 hl (k := 1) rfl (nI_1 i) (by decide) rfl (fun ls hl => ?_)
        refine lv_goto (tgt := 4) hx hb dX0_rolledDayOf_25 (by decide) ?_
        exact ih (i + 1) (r + 1) ls (by omega) (by omega) (he.trans (by simp [rolF, x0])) (lv_sub hl [0, 1, 2, 3] rfl)
  exact loop 1000 0 d ls rfl rfl rfl (lv_sub hl [0, 1, 2, 3] rfl)
end
section
set_option maxRecDepth 100000 in
set_option maxHeartbeats 4000000 in
/-- Swap.startOf -/
theorem c_start (E : ET) (w : Nat) (T : Nat → Int32) (db dh bd : Nat) (bf : Nat → Int32) (bs hs : Dy) (k : Nat) (H : Heap) (hk : k < 11) (h : SRx E w T db dh bd bf bs hs H) : PCon E yX3_startOf cX3_startOf 2 (some FieldType.int) 1 [.ref w, .int (nI k)] H (some (.int (bf k))) := by
  refine PCon.of (C := RX3) rfl (by decide +kernel) (Nat.le_of_ble_eq_true rfl) ?_
  intro p e s m below meth co ls hx hb hr hlk hml hown hts hE hH hl
  have hl : lv_has ls 2 [(0, .ref w), (1, .int (nI k))] := hl
  obtain ⟨hO, hB, hHd, hA⟩ := id h
  refine lv_iload_n hx hb dX3_startOf_0 rfl (lv_at hl 1 rfl) ?_
  refine lv_if_lt (tgt := 22) hx hb dX3_startOf_1 (by decide) (fun c => ?_) (fun c => ?_)
  · exact absurd c (nI_pos (by omega))
  refine lv_iload_n hx hb dX3_startOf_4 rfl (lv_at hl 1 rfl) ?_
  refine lv_aload_n hx hb dX3_startOf_5 rfl (lv_at hl 0 rfl) ?_
  refine gf hx hb hts hown hE lkX3_53 hO rfl dX3_startOf_6 ?_
  refine aLI hx hb hE hA dX3_startOf_9 ?_
  refine lv_icmp_ge (tgt := 22) hx hb dX3_startOf_10 (by decide) (fun c => ?_) (fun c => ?_)
  · exact absurd c (nI_ge hk (by decide))
  refine lv_aload_n hx hb dX3_startOf_13 rfl (lv_at hl 0 rfl) ?_
  refine gf hx hb hts hown hE lkX3_53 hO rfl dX3_startOf_14 ?_
  refine lv_iload_n hx hb dX3_startOf_17 rfl (lv_at hl 1 rfl) ?_
  refine aI hx hb hE hA rfl hk (by decide) rfl dX3_startOf_18 ?_
  refine lv_goto (tgt := 23) hx hb dX3_startOf_19 (by decide) ?_
  exact pI hx hb hr hlk hH rfl dX3_startOf_23

set_option maxRecDepth 100000 in
set_option maxHeartbeats 4000000 in
/-- Swap.endOf -/
theorem c_end (E : ET) (w : Nat) (T : Nat → Int32) (db dh bd : Nat) (bf : Nat → Int32) (bs hs : Dy) (k : Nat) (H : Heap) (hk : k < 10) (h : SRx E w T db dh bd bf bs hs H) : PCon E yX3_endOf cX3_endOf 2 (some FieldType.int) 2 [.ref w, .int (nI k)] H (some (.int (bf (k + 1)))) := by
  refine PCon.of (C := RX3) rfl (by decide +kernel) (Nat.le_of_ble_eq_true rfl) ?_
  intro p e s m below meth co ls hx hb hr hlk hml hown hts hE hH hl
  have hl : lv_has ls 2 [(0, .ref w), (1, .int (nI k))] := hl
  obtain ⟨hO, hB, hHd, hA⟩ := id h
  refine lv_aload_n hx hb dX3_endOf_0 rfl (lv_at hl 0 rfl) ?_
  refine lv_iload_n hx hb dX3_endOf_1 rfl (lv_at hl 1 rfl) ?_
  refine lv_iconst (v := 1) hx hb dX3_endOf_2 (by decide) ?_
  refine lv_iadd hx hb dX3_endOf_3 ?_
  rw [show nI k + 1 = nI (k + 1) from nI_1 k]
  refine pV hx hb hml hts hown hE kwX3_63 (c_start E w T db dh bd bf bs hs (k + 1) H (by omega) h) hO rfl (Nat.le_of_ble_eq_true rfl) rfl hl.1 rfl (Nat.le_of_ble_eq_true rfl) (Nat.le_refl _) (Nat.le_refl _) dX3_endOf_4 ?_
  exact pI hx hb hr hlk hH rfl dX3_endOf_7

set_option maxRecDepth 100000 in
set_option maxHeartbeats 4000000 in
/-- Swap.lotsOf -/
theorem c_lots (E : ET) (w : Nat) (T : Nat → Int32) (db dh bd : Nat) (bf : Nat → Int32) (bs hs : Dy) (k : Nat) (H : Heap) (hk : k < 11) (h : SRx E w T db dh bd bf bs hs H) : PCon E yX3_lotsOf cX3_lotsOf 2 (some FieldType.int) 5 [.ref w, .int (nI k)] H (some (.int (lotS T bs bf k))) := by
  refine PCon.of (C := RX3) rfl (by decide +kernel) (Nat.le_of_ble_eq_true rfl) ?_
  intro p e s m below meth co ls hx hb hr hlk hml hown hts hE hH hl
  have hl : lv_has ls 2 [(0, .ref w), (1, .int (nI k))] := hl
  obtain ⟨hO, hB, hHd, hA⟩ := id h
  obtain ⟨a1, ad1, hdb⟩ := hB
  refine lv_aload_n hx hb dX3_lotsOf_0 rfl (lv_at hl 0 rfl) ?_
  refine gf hx hb hts hown hE lkX3_15 hO rfl dX3_lotsOf_1 ?_
  refine lv_aload_n hx hb dX3_lotsOf_4 rfl (lv_at hl 0 rfl) ?_
  refine gf hx hb hts hown hE lkX3_46 hO rfl dX3_lotsOf_5 ?_
  refine lv_aload_n hx hb dX3_lotsOf_8 rfl (lv_at hl 0 rfl) ?_
  refine lv_iload_n hx hb dX3_lotsOf_9 rfl (lv_at hl 1 rfl) ?_
  refine pV hx hb hml hts hown hE kwX3_63 (c_start E w T db dh bd bf bs hs k H hk h) hO rfl (Nat.le_of_ble_eq_true rfl) rfl hl.1 rfl (Nat.le_of_ble_eq_true rfl) (Nat.le_refl _) (Nat.le_refl _) dX3_lotsOf_10 ?_
  refine pV hx hb hml hts hown hE kwX3_66 (c_sum E db a1 ad1 bs (bf k) H hdb) hdb.1 rfl (Nat.le_of_ble_eq_true rfl) rfl hl.1 rfl (Nat.le_of_ble_eq_true rfl) (Nat.le_refl _) (Nat.le_refl _) dX3_lotsOf_13 ?_
  refine lv_isub hx hb dX3_lotsOf_16 ?_
  exact pI hx hb hr hlk hH rfl dX3_lotsOf_17

set_option maxRecDepth 100000 in
set_option maxHeartbeats 4000000 in
/-- Swap.restOfLots -/
theorem c_rest (E : ET) (w : Nat) (T : Nat → Int32) (db dh bd : Nat) (bf : Nat → Int32) (bs hs : Dy)  (H : Heap)  (h : SRx E w T db dh bd bf bs hs H) : PCon E yX3_restOfLots cX3_restOfLots 1 (some FieldType.int) 5 [.ref w] H (some (.int (rstS T bs))) := by
  refine PCon.of (C := RX3) rfl (by decide +kernel) (Nat.le_of_ble_eq_true rfl) ?_
  intro p e s m below meth co ls hx hb hr hlk hml hown hts hE hH hl
  have hl : lv_has ls 1 [(0, .ref w)] := hl
  obtain ⟨hO, hB, hHd, hA⟩ := id h
  obtain ⟨a1, ad1, hdb⟩ := hB
  refine lv_aload_n hx hb dX3_restOfLots_0 rfl (lv_at hl 0 rfl) ?_
  refine gf hx hb hts hown hE lkX3_15 hO rfl dX3_restOfLots_1 ?_
  refine lv_aload_n hx hb dX3_restOfLots_4 rfl (lv_at hl 0 rfl) ?_
  refine gf hx hb hts hown hE lkX3_46 hO rfl dX3_restOfLots_5 ?_
  refine lv_sipush (v := 3000) hx hb dX3_restOfLots_8 (by decide) ?_
  refine pV hx hb hml hts hown hE kwX3_66 (c_sum E db a1 ad1 bs 3000 H hdb) hdb.1 rfl (Nat.le_of_ble_eq_true rfl) rfl hl.1 rfl (Nat.le_of_ble_eq_true rfl) (Nat.le_refl _) (Nat.le_refl _) dX3_restOfLots_11 ?_
  refine lv_isub hx hb dX3_restOfLots_14 ?_
  exact pI hx hb hr hlk hH rfl dX3_restOfLots_15

set_option maxRecDepth 100000 in
set_option maxHeartbeats 4000000 in
/-- Swap.holderOn -/
theorem c_hold (E : ET) (w : Nat) (T : Nat → Int32) (db dh bd : Nat) (bf : Nat → Int32) (bs hs : Dy) (day : Int32) (H : Heap)  (h : SRx E w T db dh bd bf bs hs H) : PCon E yX3_holderOn cX3_holderOn 2 (some FieldType.int) 5 [.ref w, .int day] H (some (.int (hldS T hs day))) := by
  refine PCon.of (C := RX3) rfl (by decide +kernel) (Nat.le_of_ble_eq_true rfl) ?_
  intro p e s m below meth co ls hx hb hr hlk hml hown hts hE hH hl
  have hl : lv_has ls 2 [(0, .ref w), (1, .int day)] := hl
  obtain ⟨hO, hB, hHd, hA⟩ := id h
  obtain ⟨a2, ad2, hdh⟩ := hHd
  refine lv_aload_n hx hb dX3_holderOn_0 rfl (lv_at hl 0 rfl) ?_
  refine gf hx hb hts hown hE lkX3_50 hO rfl dX3_holderOn_1 ?_
  refine lv_iload_n hx hb dX3_holderOn_4 rfl (lv_at hl 1 rfl) ?_
  refine lv_aload_n hx hb dX3_holderOn_5 rfl (lv_at hl 0 rfl) ?_
  refine gf hx hb hts hown hE lkX3_9 hO rfl dX3_holderOn_6 ?_
  refine pV hx hb hml hts hown hE kwX3_69 (c_last E dh a2 ad2 hs day (T 0) H hdh) hdh.1 rfl (Nat.le_of_ble_eq_true rfl) rfl hl.1 rfl (Nat.le_of_ble_eq_true rfl) (Nat.le_refl _) (Nat.le_refl _) dX3_holderOn_9 ?_
  exact pI hx hb hr hlk hH rfl dX3_holderOn_12

set_option maxRecDepth 100000 in
set_option maxHeartbeats 4000000 in
/-- Swap.daysOf -/
theorem c_days (E : ET) (w : Nat) (T : Nat → Int32) (db dh bd : Nat) (bf : Nat → Int32) (bs hs : Dy) (k : Nat) (H : Heap) (hk : k < 10) (h : SRx E w T db dh bd bf bs hs H) : PCon E yX3_daysOf cX3_daysOf 2 (some FieldType.long) 2 [.ref w, .int (nI k)] H (some (.long (dys T bf k))) := by
  refine PCon.of (C := RX3) rfl (by decide +kernel) (Nat.le_of_ble_eq_true rfl) ?_
  intro p e s m below meth co ls hx hb hr hlk hml hown hts hE hH hl
  have hl : lv_has ls 2 [(0, .ref w), (1, .int (nI k))] := hl
  obtain ⟨hO, hB, hHd, hA⟩ := id h
  refine lv_aload_n hx hb dX3_daysOf_0 rfl (lv_at hl 0 rfl) ?_
  refine gf hx hb hts hown hE lkX3_37 hO rfl dX3_daysOf_1 ?_
  refine lv_if_ne (tgt := 24) hx hb dX3_daysOf_4 (by decide) (fun c => ?_) (fun c => ?_)
  · refine lv_aload_n hx hb dX3_daysOf_24 rfl (lv_at hl 0 rfl) ?_
    refine gf hx hb hts hown hE lkX3_28 hO rfl dX3_daysOf_25 ?_
    refine lv_i2l hx hb dX3_daysOf_28 rfl ?_
    exact pL hx hb hr hlk hH (by simp only [dys, if_neg c]) dX3_daysOf_29
  · refine lv_aload_n hx hb dX3_daysOf_7 rfl (lv_at hl 0 rfl) ?_
    refine lv_iload_n hx hb dX3_daysOf_8 rfl (lv_at hl 1 rfl) ?_
    refine lv_iconst (v := 1) hx hb dX3_daysOf_9 (by decide) ?_
    refine lv_iadd hx hb dX3_daysOf_10 ?_
    rw [show nI k + 1 = nI (k + 1) from nI_1 k]
    refine pV hx hb hml hts hown hE kwX3_63 (c_start E w T db dh bd bf bs hs (k + 1) H (by omega) h) hO rfl (Nat.le_of_ble_eq_true rfl) rfl hl.1 rfl (Nat.le_of_ble_eq_true rfl) (Nat.le_refl _) (Nat.le_refl _) dX3_daysOf_11 ?_
    refine lv_aload_n hx hb dX3_daysOf_14 rfl (lv_at hl 0 rfl) ?_
    refine lv_iload_n hx hb dX3_daysOf_15 rfl (lv_at hl 1 rfl) ?_
    refine pV hx hb hml hts hown hE kwX3_63 (c_start E w T db dh bd bf bs hs k H (by omega) h) hO rfl (Nat.le_of_ble_eq_true rfl) rfl hl.1 rfl (Nat.le_of_ble_eq_true rfl) (Nat.le_refl _) (Nat.le_refl _) dX3_daysOf_16 ?_
    refine lv_isub hx hb dX3_daysOf_19 ?_
    refine lv_i2l hx hb dX3_daysOf_20 rfl ?_
    refine lv_goto (tgt := 29) hx hb dX3_daysOf_21 (by decide) ?_
    exact pL hx hb hr hlk hH (by simp only [dys, if_pos c]) dX3_daysOf_29

set_option maxRecDepth 100000 in
set_option maxHeartbeats 4000000 in
/-- Swap.rateOf -/
theorem c_rate (E : ET) (w : Nat) (T : Nat → Int32) (db dh bd : Nat) (bf : Nat → Int32) (bs hs : Dy) (k dx : Nat) (fx : Dy) (H : Heap) (hk : k < 11) (hx9 : DR E dx fx H) (h : SRx E w T db dh bd bf bs hs H) : PCon E yX3_rateOf cX3_rateOf 3 (some FieldType.long) 5 [.ref w, .int (nI k), .ref dx] H (some (.long (rte fx bf k))) := by
  refine PCon.of (C := RX3) rfl (by decide +kernel) (Nat.le_of_ble_eq_true rfl) ?_
  intro p e s m below meth co ls hx hb hr hlk hml hown hts hE hH hl
  have hl : lv_has ls 3 [(0, .ref w), (1, .int (nI k)), (2, .ref dx)] := hl
  obtain ⟨hO, hB, hHd, hA⟩ := id h
  obtain ⟨a3, ad3, hdx⟩ := hx9
  refine lv_aload_n hx hb dX3_rateOf_0 rfl (lv_at hl 2 rfl) ?_
  refine lv_aload_n hx hb dX3_rateOf_1 rfl (lv_at hl 0 rfl) ?_
  refine lv_iload_n hx hb dX3_rateOf_2 rfl (lv_at hl 1 rfl) ?_
  refine pV hx hb hml hts hown hE kwX3_63 (c_start E w T db dh bd bf bs hs k H hk h) hO rfl (Nat.le_of_ble_eq_true rfl) rfl hl.1 rfl (Nat.le_of_ble_eq_true rfl) (Nat.le_refl _) (Nat.le_refl _) dX3_rateOf_3 ?_
  refine lv_iconst (v := 0) hx hb dX3_rateOf_6 (by decide) ?_
  refine pV hx hb hml hts hown hE kwX3_69 (c_last E dx a3 ad3 fx (bf k) 0 H hdx) hdx.1 rfl (Nat.le_of_ble_eq_true rfl) rfl hl.1 rfl (Nat.le_of_ble_eq_true rfl) (Nat.le_refl _) (Nat.le_refl _) dX3_rateOf_7 ?_
  refine lv_i2l hx hb dX3_rateOf_10 rfl ?_
  exact pL hx hb hr hlk hH rfl dX3_rateOf_11

set_option maxRecDepth 100000 in
set_option maxHeartbeats 4000000 in
/-- Swap.floatingOf -/
theorem c_float (E : ET) (w : Nat) (T : Nat → Int32) (db dh bd : Nat) (bf : Nat → Int32) (bs hs : Dy) (k np dx : Nat) (fx : Dy) (H : Heap) (hn : T 6 = nI np) (hnp : np ≤ 10) (hk : k < np) (h9 : T 9 = 0 ∨ T 9 = 1 ∨ T 9 = 2) (hx9 : DR E dx fx H) (h : SRx E w T db dh bd bf bs hs H) : PCon E yX3_floatingOf cX3_floatingOf 12 (some FieldType.long) 6 [.ref w, .int (nI k), .ref dx] H (some (.long (fltS T bf fx k))) := by
  refine PCon.of (C := RX3) rfl (by decide +kernel) (Nat.le_of_ble_eq_true rfl) ?_
  intro p e s m below meth co ls hx hb hr hlk hml hown hts hE hH hl
  have hl : lv_has ls 12 [(0, .ref w), (1, .int (nI k)), (2, .ref dx)] := hl
  obtain ⟨hO, hB, hHd, hA⟩ := id h
  refine lv_aload_n hx hb dX3_floatingOf_0 rfl (lv_at hl 0 rfl) ?_
  refine gf hx hb hts hown hE lkX3_40 hO rfl dX3_floatingOf_1 ?_
  refine lv_if_ne (tgt := 26) hx hb dX3_floatingOf_4 (by decide) (fun c => ?_) (fun c => ?_)
  · rcases (show T 9 = 1 ∨ ¬ T 9 = 1 by rcases h9 with q | q | q <;> rw [q] <;> decide) with c1 | c1
    · refine lv_aload_n hx hb dX3_floatingOf_26 rfl (lv_at hl 0 rfl) ?_
      refine gf hx hb hts hown hE lkX3_40 hO rfl dX3_floatingOf_27 ?_
      refine lv_iconst (v := 1) hx hb dX3_floatingOf_30 (by decide) ?_
      refine lv_icmp_ne (tgt := 41) hx hb dX3_floatingOf_31 (by decide) (fun c2 => ?_) (fun c2 => ?_)
      · exact absurd c1 c2
      refine lv_aload_n hx hb dX3_floatingOf_34 rfl (lv_at hl 0 rfl) ?_
      refine gf hx hb hts hown hE lkX3_34 hO rfl dX3_floatingOf_35 ?_
      refine lv_goto (tgt := 42) hx hb dX3_floatingOf_38 (by decide) ?_
      refine lv_istore_n (lv' := [(3, .int (T 7)), (0, .ref w), (1, .int (nI k)), (2, .ref dx)]) hx hb dX3_floatingOf_42 rfl hl (by decide) rfl (fun ls hl => ?_)
      refine lv_aload_n hx hb dX3_floatingOf_43 rfl (lv_at hl 1 rfl) ?_
      refine gf hx hb hts hown hE lkX3_34 hO rfl dX3_floatingOf_44 ?_
      refine lv_iload_n hx hb dX3_floatingOf_47 rfl (lv_at hl 0 rfl) ?_
      refine lv_isub hx hb dX3_floatingOf_48 ?_
      refine lv_istore (lv' := [(4, .int (T 7 - T 7)), (3, .int (T 7)), (0, .ref w), (1, .int (nI k)), (2, .ref dx)]) hx hb dX3_floatingOf_49 hl (by decide) rfl (fun ls hl => ?_)
      refine lv_lconst (v := 0) hx hb dX3_floatingOf_51 (by decide) ?_
      refine lv_lstore (lv' := [(5, .long 0), (4, .int (T 7 - T 7)), (3, .int (T 7)), (0, .ref w), (1, .int (nI k)), (2, .ref dx)]) hx hb dX3_floatingOf_52 hl (by decide) rfl (fun ls hl => ?_)
      refine lv_lconst (v := 0) hx hb dX3_floatingOf_54 (by decide) ?_
      refine lv_lstore (lv' := [(7, .long 0), (5, .long 0), (4, .int (T 7 - T 7)), (3, .int (T 7)), (0, .ref w), (1, .int (nI k)), (2, .ref dx)]) hx hb dX3_floatingOf_55 hl (by decide) rfl (fun ls hl => ?_)
      refine lv_iconst (v := 0) hx hb dX3_floatingOf_57 (by decide) ?_
      refine lv_istore (lv' := [(9, .int 0), (7, .long 0), (5, .long 0), (4, .int (T 7 - T 7)), (3, .int (T 7)), (0, .ref w), (1, .int (nI k)), (2, .ref dx)]) hx hb dX3_floatingOf_58 hl (by decide) rfl (fun ls hl => ?_)
      have loop : ∀ (n i : Nat) (g cc : Int64) (ls : Array Slot), i + n = k + 1 → cc = (flS T bf fx i).1 → (∀ j, i = j + 1 → g = flo ((3600000 + (flS T bf fx j).1) * (if T 9 = 1 then rte fx bf j + (T 7).toInt64 else rte fx bf j) * dys T bf j)) → lv_has ls 12 [(9, .int (nI i)), (7, .long g), (5, .long cc), (0, .ref w), (1, .int (nI k)), (2, .ref dx), (3, .int (T 7)), (4, .int (T 7 - T 7))] → W p (eL E) e (rmk 6 0 0) s m ([.ref w, .int (nI k), .ref dx]).toArray below meth co H [] 0 0 (MQ below (PQ (some (.long (fltS T bf fx k)))) ([.ref w, .int (nI k), .ref dx]).toArray s 0 0 (fun _ => False)) (F0 m 60 ls []) := by
        intro n
        induction n with
        | zero =>
          intro i g cc ls hi hc hg hl
          have hi2 : i = k + 1 := by omega
          subst hi2
          have hg := hg k rfl
          refine lv_iload hx hb dX3_floatingOf_60 (lv_at hl 0 rfl) ?_
          refine lv_iload_n hx hb dX3_floatingOf_62 rfl (lv_at hl 4 rfl) ?_
          refine lv_icmp_gt (tgt := 124) hx hb dX3_floatingOf_63 (by decide) (fun c3 => ?_) (fun c3 => ?_)
          rotate_left
          · exact absurd (show nI k < nI (k + 1) from nI_lt (by omega) (by omega)) c3
          refine lv_lload hx hb dX3_floatingOf_124 (lv_at hl 1 rfl) ?_
          refine lv_iload hx hb dX3_floatingOf_126 (lv_at hl 7 rfl) ?_
          refine lv_i2l hx hb dX3_floatingOf_128 rfl ?_
          refine lv_aload_n hx hb dX3_floatingOf_129 rfl (lv_at hl 3 rfl) ?_
          refine lv_iload_n hx hb dX3_floatingOf_130 rfl (lv_at hl 4 rfl) ?_
          refine pV hx hb hml hts hown hE kwX3_77 (c_days E w T db dh bd bf bs hs k H (by omega) h) hO rfl (Nat.le_of_ble_eq_true rfl) rfl hl.1 rfl (Nat.le_of_ble_eq_true rfl) (Nat.le_refl _) (Nat.le_refl _) dX3_floatingOf_131 ?_
          refine lv_lmul hx hb dX3_floatingOf_134 ?_
          refine lv_ladd hx hb dX3_floatingOf_135 ?_
          exact pL hx hb hr hlk hH (by rw [hg]; simp [fltS, flS, c1, Int32.sub_self]) dX3_floatingOf_136
        | succ n ih =>
          intro i g cc ls hi hc hg hl
          refine lv_iload hx hb dX3_floatingOf_60 (lv_at hl 0 rfl) ?_
          refine lv_iload_n hx hb dX3_floatingOf_62 rfl (lv_at hl 4 rfl) ?_
          refine lv_icmp_gt (tgt := 124) hx hb dX3_floatingOf_63 (by decide) (fun c3 => ?_) (fun c3 => ?_)
          · exact absurd c3 (nI_nlt (by omega) (by omega))
          refine lv_iload hx hb dX3_floatingOf_66 (lv_at hl 0 rfl) ?_
          refine lv_aload_n hx hb dX3_floatingOf_68 rfl (lv_at hl 3 rfl) ?_
          refine gf hx hb hts hown hE lkX3_31 hO rfl dX3_floatingOf_69 ?_
          refine lv_icmp_ge (tgt := 124) hx hb dX3_floatingOf_72 (by decide) (fun c4 => ?_) (fun c4 => ?_)
          · exact absurd c4 (by rw [hn]; exact nI_ge (by omega) (by omega))
          refine lv_aload_n hx hb dX3_floatingOf_75 rfl (lv_at hl 3 rfl) ?_
          refine lv_iload hx hb dX3_floatingOf_76 (lv_at hl 0 rfl) ?_
          refine lv_aload_n hx hb dX3_floatingOf_78 rfl (lv_at hl 5 rfl) ?_
          refine pV hx hb hml hts hown hE kwX3_73 (c_rate E w T db dh bd bf bs hs i dx fx H (by omega) hx9 h) hO rfl (Nat.le_of_ble_eq_true rfl) rfl hl.1 rfl (Nat.le_of_ble_eq_true rfl) (Nat.le_refl _) (Nat.le_refl _) dX3_floatingOf_79 ?_
          refine lv_iload_n hx hb dX3_floatingOf_82 rfl (lv_at hl 6 rfl) ?_
          refine lv_i2l hx hb dX3_floatingOf_83 rfl ?_
          refine lv_ladd hx hb dX3_floatingOf_84 ?_
          refine lv_lstore (lv' := [(10, .long (rte fx bf i + (T 7).toInt64)), (9, .int (nI i)), (7, .long g), (5, .long cc), (0, .ref w), (1, .int (nI k)), (2, .ref dx), (3, .int (T 7)), (4, .int (T 7 - T 7))]) hx hb dX3_floatingOf_85 hl (by decide) rfl (fun ls hl => ?_)
          refine lv_ldc2 (v := 3600000) hx hb hown (hts _ qw3_23) dX3_floatingOf_87 ?_
          refine lv_lload hx hb dX3_floatingOf_90 (lv_at hl 3 rfl) ?_
          refine lv_ladd hx hb dX3_floatingOf_92 ?_
          refine lv_lload hx hb dX3_floatingOf_93 (lv_at hl 0 rfl) ?_
          refine lv_lmul hx hb dX3_floatingOf_95 ?_
          refine lv_aload_n hx hb dX3_floatingOf_96 rfl (lv_at hl 4 rfl) ?_
          refine lv_iload hx hb dX3_floatingOf_97 (lv_at hl 1 rfl) ?_
          refine pV hx hb hml hts hown hE kwX3_77 (c_days E w T db dh bd bf bs hs i H (by omega) h) hO rfl (Nat.le_of_ble_eq_true rfl) rfl hl.1 rfl (Nat.le_of_ble_eq_true rfl) (Nat.le_refl _) (Nat.le_refl _) dX3_floatingOf_99 ?_
          refine lv_lmul hx hb dX3_floatingOf_102 ?_
          refine lv_ldc2 (v := 3600000) hx hb hown (hts _ qw3_23) dX3_floatingOf_103 ?_
          refine pS hx hb hml hts hown hE kwX3_83 (c_fdiv E (((3600000 + cc) * (rte fx bf i + (T 7).toInt64)) * dys T bf i) H) (Nat.le_of_ble_eq_true rfl) rfl hl.1 rfl (Nat.le_of_ble_eq_true rfl) (Nat.le_refl _) (Nat.le_refl _) dX3_floatingOf_106 ?_
          refine lv_lstore (lv' := [(7, .long (flo (((3600000 + cc) * (rte fx bf i + (T 7).toInt64)) * dys T bf i))), (10, .long (rte fx bf i + (T 7).toInt64)), (9, .int (nI i)), (5, .long cc), (0, .ref w), (1, .int (nI k)), (2, .ref dx), (3, .int (T 7)), (4, .int (T 7 - T 7))]) hx hb dX3_floatingOf_109 hl (by decide) rfl (fun ls hl => ?_)
          refine lv_lload hx hb dX3_floatingOf_111 (lv_at hl 3 rfl) ?_
          refine lv_lload hx hb dX3_floatingOf_113 (lv_at hl 0 rfl) ?_
          refine lv_ladd hx hb dX3_floatingOf_115 ?_
          refine lv_lstore (lv' := [(5, .long (cc + (flo (((3600000 + cc) * (rte fx bf i + (T 7).toInt64)) * dys T bf i)))), (7, .long (flo (((3600000 + cc) * (rte fx bf i + (T 7).toInt64)) * dys T bf i))), (10, .long (rte fx bf i + (T 7).toInt64)), (9, .int (nI i)), (0, .ref w), (1, .int (nI k)), (2, .ref dx), (3, .int (T 7)), (4, .int (T 7 - T 7))]) hx hb dX3_floatingOf_116 hl (by decide) rfl (fun ls hl => ?_)
          refine lv_iinc (v := nI (i + 1)) (lv' := [(9, .int (nI (i + 1))), (5, .long (cc + (flo (((3600000 + cc) * (rte fx bf i + (T 7).toInt64)) * dys T bf i)))), (7, .long (flo (((3600000 + cc) * (rte fx bf i + (T 7).toInt64)) * dys T bf i))), (10, .long (rte fx bf i + (T 7).toInt64)), (0, .ref w), (1, .int (nI k)), (2, .ref dx), (3, .int (T 7)), (4, .int (T 7 - T 7))]) hx hb dX3_floatingOf_118 hl (k := 3) rfl (nI_1 i) (by decide) rfl (fun ls hl => ?_)
          refine lv_goto (tgt := 60) hx hb dX3_floatingOf_121 (by decide) ?_
          have eg : (flo (((3600000 + cc) * (rte fx bf i + (T 7).toInt64)) * dys T bf i)) = flo ((3600000 + (flS T bf fx i).1) * (if T 9 = 1 then rte fx bf i + (T 7).toInt64 else rte fx bf i) * dys T bf i) := by rw [hc]; simp [c1]
          exact ih (i + 1) (flo (((3600000 + cc) * (rte fx bf i + (T 7).toInt64)) * dys T bf i)) (cc + (flo (((3600000 + cc) * (rte fx bf i + (T 7).toInt64)) * dys T bf i))) ls (by omega) (by rw [eg, hc]; rfl) (fun j hj => by cases hj; exact eg) (lv_sub hl [0, 2, 1, 4, 5, 6, 7, 8] rfl)
      exact loop (k + 1) 0 0 0 ls (by omega) rfl (fun j hj => by omega) (lv_sub hl [0, 1, 2, 5, 6, 7, 4, 3] rfl)
    · refine lv_aload_n hx hb dX3_floatingOf_26 rfl (lv_at hl 0 rfl) ?_
      refine gf hx hb hts hown hE lkX3_40 hO rfl dX3_floatingOf_27 ?_
      refine lv_iconst (v := 1) hx hb dX3_floatingOf_30 (by decide) ?_
      refine lv_icmp_ne (tgt := 41) hx hb dX3_floatingOf_31 (by decide) (fun c2 => ?_) (fun c2 => ?_)
      rotate_left
      · exact absurd c2 c1
      refine lv_iconst (v := 0) hx hb dX3_floatingOf_41 (by decide) ?_
      refine lv_istore_n (lv' := [(3, .int 0), (0, .ref w), (1, .int (nI k)), (2, .ref dx)]) hx hb dX3_floatingOf_42 rfl hl (by decide) rfl (fun ls hl => ?_)
      refine lv_aload_n hx hb dX3_floatingOf_43 rfl (lv_at hl 1 rfl) ?_
      refine gf hx hb hts hown hE lkX3_34 hO rfl dX3_floatingOf_44 ?_
      refine lv_iload_n hx hb dX3_floatingOf_47 rfl (lv_at hl 0 rfl) ?_
      refine lv_isub hx hb dX3_floatingOf_48 ?_
      refine lv_istore (lv' := [(4, .int (T 7 - 0)), (3, .int 0), (0, .ref w), (1, .int (nI k)), (2, .ref dx)]) hx hb dX3_floatingOf_49 hl (by decide) rfl (fun ls hl => ?_)
      refine lv_lconst (v := 0) hx hb dX3_floatingOf_51 (by decide) ?_
      refine lv_lstore (lv' := [(5, .long 0), (4, .int (T 7 - 0)), (3, .int 0), (0, .ref w), (1, .int (nI k)), (2, .ref dx)]) hx hb dX3_floatingOf_52 hl (by decide) rfl (fun ls hl => ?_)
      refine lv_lconst (v := 0) hx hb dX3_floatingOf_54 (by decide) ?_
      refine lv_lstore (lv' := [(7, .long 0), (5, .long 0), (4, .int (T 7 - 0)), (3, .int 0), (0, .ref w), (1, .int (nI k)), (2, .ref dx)]) hx hb dX3_floatingOf_55 hl (by decide) rfl (fun ls hl => ?_)
      refine lv_iconst (v := 0) hx hb dX3_floatingOf_57 (by decide) ?_
      refine lv_istore (lv' := [(9, .int 0), (7, .long 0), (5, .long 0), (4, .int (T 7 - 0)), (3, .int 0), (0, .ref w), (1, .int (nI k)), (2, .ref dx)]) hx hb dX3_floatingOf_58 hl (by decide) rfl (fun ls hl => ?_)
      have loop : ∀ (n i : Nat) (g cc : Int64) (ls : Array Slot), i + n = k + 1 → cc = (flS T bf fx i).1 → (∀ j, i = j + 1 → g = flo ((3600000 + (flS T bf fx j).1) * (if T 9 = 1 then rte fx bf j + (T 7).toInt64 else rte fx bf j) * dys T bf j)) → lv_has ls 12 [(9, .int (nI i)), (7, .long g), (5, .long cc), (0, .ref w), (1, .int (nI k)), (2, .ref dx), (3, .int 0), (4, .int (T 7 - 0))] → W p (eL E) e (rmk 6 0 0) s m ([.ref w, .int (nI k), .ref dx]).toArray below meth co H [] 0 0 (MQ below (PQ (some (.long (fltS T bf fx k)))) ([.ref w, .int (nI k), .ref dx]).toArray s 0 0 (fun _ => False)) (F0 m 60 ls []) := by
        intro n
        induction n with
        | zero =>
          intro i g cc ls hi hc hg hl
          have hi2 : i = k + 1 := by omega
          subst hi2
          have hg := hg k rfl
          refine lv_iload hx hb dX3_floatingOf_60 (lv_at hl 0 rfl) ?_
          refine lv_iload_n hx hb dX3_floatingOf_62 rfl (lv_at hl 4 rfl) ?_
          refine lv_icmp_gt (tgt := 124) hx hb dX3_floatingOf_63 (by decide) (fun c3 => ?_) (fun c3 => ?_)
          rotate_left
          · exact absurd (show nI k < nI (k + 1) from nI_lt (by omega) (by omega)) c3
          refine lv_lload hx hb dX3_floatingOf_124 (lv_at hl 1 rfl) ?_
          refine lv_iload hx hb dX3_floatingOf_126 (lv_at hl 7 rfl) ?_
          refine lv_i2l hx hb dX3_floatingOf_128 rfl ?_
          refine lv_aload_n hx hb dX3_floatingOf_129 rfl (lv_at hl 3 rfl) ?_
          refine lv_iload_n hx hb dX3_floatingOf_130 rfl (lv_at hl 4 rfl) ?_
          refine pV hx hb hml hts hown hE kwX3_77 (c_days E w T db dh bd bf bs hs k H (by omega) h) hO rfl (Nat.le_of_ble_eq_true rfl) rfl hl.1 rfl (Nat.le_of_ble_eq_true rfl) (Nat.le_refl _) (Nat.le_refl _) dX3_floatingOf_131 ?_
          refine lv_lmul hx hb dX3_floatingOf_134 ?_
          refine lv_ladd hx hb dX3_floatingOf_135 ?_
          exact pL hx hb hr hlk hH (by rw [hg]; simp [fltS, flS, c, c1]) dX3_floatingOf_136
        | succ n ih =>
          intro i g cc ls hi hc hg hl
          refine lv_iload hx hb dX3_floatingOf_60 (lv_at hl 0 rfl) ?_
          refine lv_iload_n hx hb dX3_floatingOf_62 rfl (lv_at hl 4 rfl) ?_
          refine lv_icmp_gt (tgt := 124) hx hb dX3_floatingOf_63 (by decide) (fun c3 => ?_) (fun c3 => ?_)
          · exact absurd c3 (nI_nlt (by omega) (by omega))
          refine lv_iload hx hb dX3_floatingOf_66 (lv_at hl 0 rfl) ?_
          refine lv_aload_n hx hb dX3_floatingOf_68 rfl (lv_at hl 3 rfl) ?_
          refine gf hx hb hts hown hE lkX3_31 hO rfl dX3_floatingOf_69 ?_
          refine lv_icmp_ge (tgt := 124) hx hb dX3_floatingOf_72 (by decide) (fun c4 => ?_) (fun c4 => ?_)
          · exact absurd c4 (by rw [hn]; exact nI_ge (by omega) (by omega))
          refine lv_aload_n hx hb dX3_floatingOf_75 rfl (lv_at hl 3 rfl) ?_
          refine lv_iload hx hb dX3_floatingOf_76 (lv_at hl 0 rfl) ?_
          refine lv_aload_n hx hb dX3_floatingOf_78 rfl (lv_at hl 5 rfl) ?_
          refine pV hx hb hml hts hown hE kwX3_73 (c_rate E w T db dh bd bf bs hs i dx fx H (by omega) hx9 h) hO rfl (Nat.le_of_ble_eq_true rfl) rfl hl.1 rfl (Nat.le_of_ble_eq_true rfl) (Nat.le_refl _) (Nat.le_refl _) dX3_floatingOf_79 ?_
          refine lv_iload_n hx hb dX3_floatingOf_82 rfl (lv_at hl 6 rfl) ?_
          refine lv_i2l hx hb dX3_floatingOf_83 rfl ?_
          refine lv_ladd hx hb dX3_floatingOf_84 ?_
          refine lv_lstore (lv' := [(10, .long (rte fx bf i + (0 : Int32).toInt64)), (9, .int (nI i)), (7, .long g), (5, .long cc), (0, .ref w), (1, .int (nI k)), (2, .ref dx), (3, .int 0), (4, .int (T 7 - 0))]) hx hb dX3_floatingOf_85 hl (by decide) rfl (fun ls hl => ?_)
          refine lv_ldc2 (v := 3600000) hx hb hown (hts _ qw3_23) dX3_floatingOf_87 ?_
          refine lv_lload hx hb dX3_floatingOf_90 (lv_at hl 3 rfl) ?_
          refine lv_ladd hx hb dX3_floatingOf_92 ?_
          refine lv_lload hx hb dX3_floatingOf_93 (lv_at hl 0 rfl) ?_
          refine lv_lmul hx hb dX3_floatingOf_95 ?_
          refine lv_aload_n hx hb dX3_floatingOf_96 rfl (lv_at hl 4 rfl) ?_
          refine lv_iload hx hb dX3_floatingOf_97 (lv_at hl 1 rfl) ?_
          refine pV hx hb hml hts hown hE kwX3_77 (c_days E w T db dh bd bf bs hs i H (by omega) h) hO rfl (Nat.le_of_ble_eq_true rfl) rfl hl.1 rfl (Nat.le_of_ble_eq_true rfl) (Nat.le_refl _) (Nat.le_refl _) dX3_floatingOf_99 ?_
          refine lv_lmul hx hb dX3_floatingOf_102 ?_
          refine lv_ldc2 (v := 3600000) hx hb hown (hts _ qw3_23) dX3_floatingOf_103 ?_
          refine pS hx hb hml hts hown hE kwX3_83 (c_fdiv E (((3600000 + cc) * (rte fx bf i + (0 : Int32).toInt64)) * dys T bf i) H) (Nat.le_of_ble_eq_true rfl) rfl hl.1 rfl (Nat.le_of_ble_eq_true rfl) (Nat.le_refl _) (Nat.le_refl _) dX3_floatingOf_106 ?_
          refine lv_lstore (lv' := [(7, .long (flo (((3600000 + cc) * (rte fx bf i + (0 : Int32).toInt64)) * dys T bf i))), (10, .long (rte fx bf i + (0 : Int32).toInt64)), (9, .int (nI i)), (5, .long cc), (0, .ref w), (1, .int (nI k)), (2, .ref dx), (3, .int 0), (4, .int (T 7 - 0))]) hx hb dX3_floatingOf_109 hl (by decide) rfl (fun ls hl => ?_)
          refine lv_lload hx hb dX3_floatingOf_111 (lv_at hl 3 rfl) ?_
          refine lv_lload hx hb dX3_floatingOf_113 (lv_at hl 0 rfl) ?_
          refine lv_ladd hx hb dX3_floatingOf_115 ?_
          refine lv_lstore (lv' := [(5, .long (cc + (flo (((3600000 + cc) * (rte fx bf i + (0 : Int32).toInt64)) * dys T bf i)))), (7, .long (flo (((3600000 + cc) * (rte fx bf i + (0 : Int32).toInt64)) * dys T bf i))), (10, .long (rte fx bf i + (0 : Int32).toInt64)), (9, .int (nI i)), (0, .ref w), (1, .int (nI k)), (2, .ref dx), (3, .int 0), (4, .int (T 7 - 0))]) hx hb dX3_floatingOf_116 hl (by decide) rfl (fun ls hl => ?_)
          refine lv_iinc (v := nI (i + 1)) (lv' := [(9, .int (nI (i + 1))), (5, .long (cc + (flo (((3600000 + cc) * (rte fx bf i + (0 : Int32).toInt64)) * dys T bf i)))), (7, .long (flo (((3600000 + cc) * (rte fx bf i + (0 : Int32).toInt64)) * dys T bf i))), (10, .long (rte fx bf i + (0 : Int32).toInt64)), (0, .ref w), (1, .int (nI k)), (2, .ref dx), (3, .int 0), (4, .int (T 7 - 0))]) hx hb dX3_floatingOf_118 hl (k := 3) rfl (nI_1 i) (by decide) rfl (fun ls hl => ?_)
          refine lv_goto (tgt := 60) hx hb dX3_floatingOf_121 (by decide) ?_
          have eg : (flo (((3600000 + cc) * (rte fx bf i + (0 : Int32).toInt64)) * dys T bf i)) = flo ((3600000 + (flS T bf fx i).1) * (if T 9 = 1 then rte fx bf i + (T 7).toInt64 else rte fx bf i) * dys T bf i) := by rw [hc]; simp [c1]
          exact ih (i + 1) (flo (((3600000 + cc) * (rte fx bf i + (0 : Int32).toInt64)) * dys T bf i)) (cc + (flo (((3600000 + cc) * (rte fx bf i + (0 : Int32).toInt64)) * dys T bf i))) ls (by omega) (by rw [eg, hc]; rfl) (fun j hj => by cases hj; exact eg) (lv_sub hl [0, 2, 1, 4, 5, 6, 7, 8] rfl)
      exact loop (k + 1) 0 0 0 ls (by omega) rfl (fun j hj => by omega) (lv_sub hl [0, 1, 2, 5, 6, 7, 4, 3] rfl)
  · refine lv_aload_n hx hb dX3_floatingOf_7 rfl (lv_at hl 0 rfl) ?_
    refine lv_iload_n hx hb dX3_floatingOf_8 rfl (lv_at hl 1 rfl) ?_
    refine lv_aload_n hx hb dX3_floatingOf_9 rfl (lv_at hl 2 rfl) ?_
    refine pV hx hb hml hts hown hE kwX3_73 (c_rate E w T db dh bd bf bs hs k dx fx H (by omega) hx9 h) hO rfl (Nat.le_of_ble_eq_true rfl) rfl hl.1 rfl (Nat.le_of_ble_eq_true rfl) (Nat.le_refl _) (Nat.le_refl _) dX3_floatingOf_10 ?_
    refine lv_aload_n hx hb dX3_floatingOf_13 rfl (lv_at hl 0 rfl) ?_
    refine gf hx hb hts hown hE lkX3_34 hO rfl dX3_floatingOf_14 ?_
    refine lv_i2l hx hb dX3_floatingOf_17 rfl ?_
    refine lv_ladd hx hb dX3_floatingOf_18 ?_
    refine lv_aload_n hx hb dX3_floatingOf_19 rfl (lv_at hl 0 rfl) ?_
    refine lv_iload_n hx hb dX3_floatingOf_20 rfl (lv_at hl 1 rfl) ?_
    refine pV hx hb hml hts hown hE kwX3_77 (c_days E w T db dh bd bf bs hs k H (by omega) h) hO rfl (Nat.le_of_ble_eq_true rfl) rfl hl.1 rfl (Nat.le_of_ble_eq_true rfl) (Nat.le_refl _) (Nat.le_refl _) dX3_floatingOf_21 ?_
    refine lv_lmul hx hb dX3_floatingOf_24 ?_
    exact pL hx hb hr hlk hH (by simp [fltS, flS, c]) dX3_floatingOf_25

set_option maxRecDepth 100000 in
set_option maxHeartbeats 4000000 in
/-- Swap.flowOf -/
theorem c_flow (E : ET) (w : Nat) (T : Nat → Int32) (db dh bd : Nat) (bf : Nat → Int32) (bs hs : Dy) (k np dx : Nat) (fx : Dy) (H : Heap) (hn : T 6 = nI np) (hnp : np ≤ 10) (hk : k < np) (h9 : T 9 = 0 ∨ T 9 = 1 ∨ T 9 = 2) (hx9 : DR E dx fx H) (h : SRx E w T db dh bd bf bs hs H) : PCon E yX3_flowOf cX3_flowOf 5 (some FieldType.long) 7 [.ref w, .int (nI k), .ref dx] H (some (.long (flwS T bs bf fx k))) := by
  refine PCon.of (C := RX3) rfl (by decide +kernel) (Nat.le_of_ble_eq_true rfl) ?_
  intro p e s m below meth co ls hx hb hr hlk hml hown hts hE hH hl
  have hl : lv_has ls 5 [(0, .ref w), (1, .int (nI k)), (2, .ref dx)] := hl
  obtain ⟨hO, hB, hHd, hA⟩ := id h
  refine lv_aload_n hx hb dX3_flowOf_0 rfl (lv_at hl 0 rfl) ?_
  refine lv_iload_n hx hb dX3_flowOf_1 rfl (lv_at hl 1 rfl) ?_
  refine lv_aload_n hx hb dX3_flowOf_2 rfl (lv_at hl 2 rfl) ?_
  refine pV hx hb hml hts hown hE kwX3_89 (c_float E w T db dh bd bf bs hs k np dx fx H hn hnp hk h9 hx9 h) hO rfl (Nat.le_of_ble_eq_true rfl) rfl hl.1 rfl (Nat.le_of_ble_eq_true rfl) (Nat.le_refl _) (Nat.le_refl _) dX3_flowOf_3 ?_
  refine lv_aload_n hx hb dX3_flowOf_6 rfl (lv_at hl 0 rfl) ?_
  refine gf hx hb hts hown hE lkX3_22 hO rfl dX3_flowOf_7 ?_
  refine lv_i2l hx hb dX3_flowOf_10 rfl ?_
  refine lv_aload_n hx hb dX3_flowOf_11 rfl (lv_at hl 0 rfl) ?_
  refine lv_iload_n hx hb dX3_flowOf_12 rfl (lv_at hl 1 rfl) ?_
  refine pV hx hb hml hts hown hE kwX3_77 (c_days E w T db dh bd bf bs hs k H (by omega) h) hO rfl (Nat.le_of_ble_eq_true rfl) rfl hl.1 rfl (Nat.le_of_ble_eq_true rfl) (Nat.le_refl _) (Nat.le_refl _) dX3_flowOf_13 ?_
  refine lv_lmul hx hb dX3_flowOf_16 ?_
  refine lv_lsub hx hb dX3_flowOf_17 ?_
  refine lv_lstore_n (lv' := [(3, .long (fltS T bf fx k - ((T 3).toInt64 * dys T bf k))), (0, .ref w), (1, .int (nI k)), (2, .ref dx)]) hx hb dX3_flowOf_18 rfl hl (by decide) rfl (fun ls hl => ?_)
  refine lv_aload_n hx hb dX3_flowOf_19 rfl (lv_at hl 1 rfl) ?_
  refine lv_iload_n hx hb dX3_flowOf_20 rfl (lv_at hl 2 rfl) ?_
  refine pV hx hb hml hts hown hE kwX3_92 (c_lots E w T db dh bd bf bs hs k H (by omega) h) hO rfl (Nat.le_of_ble_eq_true rfl) rfl hl.1 rfl (Nat.le_of_ble_eq_true rfl) (Nat.le_refl _) (Nat.le_refl _) dX3_flowOf_21 ?_
  refine lv_i2l hx hb dX3_flowOf_24 rfl ?_
  refine lv_aload_n hx hb dX3_flowOf_25 rfl (lv_at hl 1 rfl) ?_
  refine gf hx hb hts hown hE lkX3_18 hO rfl dX3_flowOf_26 ?_
  refine lv_if_eq (tgt := 36) hx hb dX3_flowOf_29 (by decide) (fun c => ?_) (fun c => ?_)
  · refine lv_lload_n hx hb dX3_flowOf_36 rfl (lv_at hl 0 rfl) ?_
    refine lv_lneg hx hb dX3_flowOf_37 ?_
    refine lv_lmul hx hb dX3_flowOf_38 ?_
    exact pL hx hb hr hlk hH (by simp [flwS, gnS, c]) dX3_flowOf_39
  · refine lv_lload_n hx hb dX3_flowOf_32 rfl (lv_at hl 0 rfl) ?_
    refine lv_goto (tgt := 38) hx hb dX3_flowOf_33 (by decide) ?_
    refine lv_lmul hx hb dX3_flowOf_38 ?_
    exact pL hx hb hr hlk hH (by simp [flwS, gnS, c]) dX3_flowOf_39

set_option maxRecDepth 100000 in
set_option maxHeartbeats 4000000 in
/-- Swap.cashOf -/
theorem c_cashOf (E : ET) (w : Nat) (T : Nat → Int32) (db dh bd : Nat) (bf : Nat → Int32) (bs hs : Dy) (np dx : Nat) (pa d1 d2 : Int32) (fx : Dy) (H : Heap) (hn : T 6 = nI np) (hnp : np ≤ 10) (h9 : T 9 = 0 ∨ T 9 = 1 ∨ T 9 = 2) (hx9 : DR E dx fx H) (h : SRx E w T db dh bd bf bs hs H) : PCon E yX3_cashOf cX3_cashOf 9 (some FieldType.long) 8 [.ref w, .int pa, .int d1, .int d2, .ref dx] H (some (.long (cshS T bs hs bf fx pa d1 d2 np))) := by
  refine PCon.of (C := RX3) rfl (by decide +kernel) (Nat.le_of_ble_eq_true rfl) ?_
  intro p e s m below meth co ls hx hb hr hlk hml hown hts hE hH hl
  have hl : lv_has ls 9 [(0, .ref w), (1, .int pa), (2, .int d1), (3, .int d2), (4, .ref dx)] := hl
  obtain ⟨hO, hB, hHd, hA⟩ := id h
  refine lv_lconst (v := 0) hx hb dX3_cashOf_0 (by decide) ?_
  refine lv_lstore (lv' := [(5, .long 0), (0, .ref w), (1, .int pa), (2, .int d1), (3, .int d2), (4, .ref dx)]) hx hb dX3_cashOf_1 hl (by decide) rfl (fun ls hl => ?_)
  refine lv_iconst (v := 0) hx hb dX3_cashOf_3 (by decide) ?_
  refine lv_istore (lv' := [(7, .int 0), (5, .long 0), (0, .ref w), (1, .int pa), (2, .int d1), (3, .int d2), (4, .ref dx)]) hx hb dX3_cashOf_4 hl (by decide) rfl (fun ls hl => ?_)
  have loop : ∀ (n i : Nat) (ls : Array Slot), i + n = np → lv_has ls 9 [(7, .int (nI i)), (5, .long (cshS T bs hs bf fx pa d1 d2 i)), (0, .ref w), (1, .int pa), (2, .int d1), (3, .int d2), (4, .ref dx)] → W p (eL E) e (rmk 8 0 0) s m ([.ref w, .int pa, .int d1, .int d2, .ref dx]).toArray below meth co H [] 0 0 (MQ below (PQ (some (.long (cshS T bs hs bf fx pa d1 d2 np)))) ([.ref w, .int pa, .int d1, .int d2, .ref dx]).toArray s 0 0 (fun _ => False)) (F0 m 6 ls []) := by
    intro n
    induction n with
    | zero =>
      intro i ls hi hl
      have hi2 : i = np := by omega
      subst hi2
      refine lv_iload hx hb dX3_cashOf_6 (lv_at hl 0 rfl) ?_
      refine lv_aload_n hx hb dX3_cashOf_8 rfl (lv_at hl 2 rfl) ?_
      refine gf hx hb hts hown hE lkX3_31 hO rfl dX3_cashOf_9 ?_
      refine lv_icmp_ge (tgt := 64) hx hb dX3_cashOf_12 (by decide) (fun c => ?_) (fun c => ?_)
      rotate_left
      · exact absurd (by rw [hn]; exact nI_le (Nat.le_refl _) (by omega)) c
      refine lv_lload hx hb dX3_cashOf_64 (lv_at hl 1 rfl) ?_
      exact pL hx hb hr hlk hH rfl dX3_cashOf_66
    | succ n ih =>
      intro i ls hi hl
      refine lv_iload hx hb dX3_cashOf_6 (lv_at hl 0 rfl) ?_
      refine lv_aload_n hx hb dX3_cashOf_8 rfl (lv_at hl 2 rfl) ?_
      refine gf hx hb hts hown hE lkX3_31 hO rfl dX3_cashOf_9 ?_
      refine lv_icmp_ge (tgt := 64) hx hb dX3_cashOf_12 (by decide) (fun c => ?_) (fun c => ?_)
      · exact absurd c (by rw [hn]; exact nI_ge (by omega) (by omega))
      refine lv_aload_n hx hb dX3_cashOf_15 rfl (lv_at hl 2 rfl) ?_
      refine lv_iload hx hb dX3_cashOf_16 (lv_at hl 0 rfl) ?_
      refine pV hx hb hml hts hown hE kwX3_95 (c_end E w T db dh bd bf bs hs i H (by omega) h) hO rfl (Nat.le_of_ble_eq_true rfl) rfl hl.1 rfl (Nat.le_of_ble_eq_true rfl) (Nat.le_refl _) (Nat.le_refl _) dX3_cashOf_18 ?_
      refine lv_istore (lv' := [(8, .int (bf (i + 1))), (7, .int (nI i)), (5, .long (cshS T bs hs bf fx pa d1 d2 i)), (0, .ref w), (1, .int pa), (2, .int d1), (3, .int d2), (4, .ref dx)]) hx hb dX3_cashOf_21 hl (by decide) rfl (fun ls hl => ?_)
      refine lv_iload hx hb dX3_cashOf_23 (lv_at hl 0 rfl) ?_
      refine lv_iload_n hx hb dX3_cashOf_25 rfl (lv_at hl 5 rfl) ?_
      refine lv_icmp_lt (tgt := 58) hx hb dX3_cashOf_26 (by decide) (fun c1 => ?_) (fun c1 => ?_)
      · refine lv_iinc (v := nI (i + 1)) (lv' := [(7, .int (nI (i + 1))), (8, .int (bf (i + 1))), (5, .long (cshS T bs hs bf fx pa d1 d2 i)), (0, .ref w), (1, .int pa), (2, .int d1), (3, .int d2), (4, .ref dx)]) hx hb dX3_cashOf_58 hl (k := 1) rfl (nI_1 i) (by decide) rfl (fun ls hl => ?_)
        refine lv_goto (tgt := 6) hx hb dX3_cashOf_61 (by decide) ?_
        exact ih (i + 1) ls (by omega) (by
          have e : cshS T bs hs bf fx pa d1 d2 (i + 1) = cshS T bs hs bf fx pa d1 d2 i := by simp only [cshS]; rw [if_neg (fun q => absurd q.1 (Int32.not_le.mpr c1))]
          rw [e]
          exact (lv_sub hl [0, 2, 3, 4, 5, 6, 7] rfl))
      · refine lv_iload hx hb dX3_cashOf_29 (lv_at hl 0 rfl) ?_
        refine lv_iload_n hx hb dX3_cashOf_31 rfl (lv_at hl 6 rfl) ?_
        refine lv_icmp_gt (tgt := 58) hx hb dX3_cashOf_32 (by decide) (fun c2 => ?_) (fun c2 => ?_)
        · refine lv_iinc (v := nI (i + 1)) (lv' := [(7, .int (nI (i + 1))), (8, .int (bf (i + 1))), (5, .long (cshS T bs hs bf fx pa d1 d2 i)), (0, .ref w), (1, .int pa), (2, .int d1), (3, .int d2), (4, .ref dx)]) hx hb dX3_cashOf_58 hl (k := 1) rfl (nI_1 i) (by decide) rfl (fun ls hl => ?_)
          refine lv_goto (tgt := 6) hx hb dX3_cashOf_61 (by decide) ?_
          exact ih (i + 1) ls (by omega) (by
            have e : cshS T bs hs bf fx pa d1 d2 (i + 1) = cshS T bs hs bf fx pa d1 d2 i := by simp only [cshS]; rw [if_neg (fun q => absurd q.2.1 (Int32.not_le.mpr c2))]
            rw [e]
            exact (lv_sub hl [0, 2, 3, 4, 5, 6, 7] rfl))
        · refine lv_aload_n hx hb dX3_cashOf_35 rfl (lv_at hl 3 rfl) ?_
          refine lv_iload hx hb dX3_cashOf_36 (lv_at hl 0 rfl) ?_
          refine pV hx hb hml hts hown hE kwX3_98 (c_hold E w T db dh bd bf bs hs (bf (i + 1)) H h) hO rfl (Nat.le_of_ble_eq_true rfl) rfl hl.1 rfl (Nat.le_of_ble_eq_true rfl) (Nat.le_refl _) (Nat.le_refl _) dX3_cashOf_38 ?_
          refine lv_iload_n hx hb dX3_cashOf_41 rfl (lv_at hl 4 rfl) ?_
          refine lv_icmp_ne (tgt := 58) hx hb dX3_cashOf_42 (by decide) (fun c3 => ?_) (fun c3 => ?_)
          · refine lv_iinc (v := nI (i + 1)) (lv' := [(7, .int (nI (i + 1))), (8, .int (bf (i + 1))), (5, .long (cshS T bs hs bf fx pa d1 d2 i)), (0, .ref w), (1, .int pa), (2, .int d1), (3, .int d2), (4, .ref dx)]) hx hb dX3_cashOf_58 hl (k := 1) rfl (nI_1 i) (by decide) rfl (fun ls hl => ?_)
            refine lv_goto (tgt := 6) hx hb dX3_cashOf_61 (by decide) ?_
            exact ih (i + 1) ls (by omega) (by
              have e : cshS T bs hs bf fx pa d1 d2 (i + 1) = cshS T bs hs bf fx pa d1 d2 i := by simp only [cshS]; rw [if_neg (fun q => c3 q.2.2)]
              rw [e]
              exact (lv_sub hl [0, 2, 3, 4, 5, 6, 7] rfl))
          · refine lv_lload hx hb dX3_cashOf_45 (lv_at hl 2 rfl) ?_
            refine lv_aload_n hx hb dX3_cashOf_47 rfl (lv_at hl 3 rfl) ?_
            refine lv_iload hx hb dX3_cashOf_48 (lv_at hl 1 rfl) ?_
            refine lv_aload hx hb dX3_cashOf_50 (lv_at hl 7 rfl) ?_
            refine pV hx hb hml hts hown hE kwX3_101 (c_flow E w T db dh bd bf bs hs i np dx fx H hn hnp (by omega) h9 hx9 h) hO rfl (Nat.le_of_ble_eq_true rfl) rfl hl.1 rfl (Nat.le_of_ble_eq_true rfl) (Nat.le_refl _) (Nat.le_refl _) dX3_cashOf_52 ?_
            refine lv_ladd hx hb dX3_cashOf_55 ?_
            refine lv_lstore (lv' := [(5, .long (cshS T bs hs bf fx pa d1 d2 i + flwS T bs bf fx i)), (8, .int (bf (i + 1))), (7, .int (nI i)), (0, .ref w), (1, .int pa), (2, .int d1), (3, .int d2), (4, .ref dx)]) hx hb dX3_cashOf_56 hl (by decide) rfl (fun ls hl => ?_)
            refine lv_iinc (v := nI (i + 1)) (lv' := [(7, .int (nI (i + 1))), (5, .long (cshS T bs hs bf fx pa d1 d2 i + flwS T bs bf fx i)), (8, .int (bf (i + 1))), (0, .ref w), (1, .int pa), (2, .int d1), (3, .int d2), (4, .ref dx)]) hx hb dX3_cashOf_58 hl (k := 2) rfl (nI_1 i) (by decide) rfl (fun ls hl => ?_)
            refine lv_goto (tgt := 6) hx hb dX3_cashOf_61 (by decide) ?_
            exact ih (i + 1) ls (by omega) (by
              have e : cshS T bs hs bf fx pa d1 d2 (i + 1) = cshS T bs hs bf fx pa d1 d2 i + flwS T bs bf fx i := by simp only [cshS]; rw [if_pos ⟨Int32.not_lt.mp c1, Int32.not_lt.mp c2, c3⟩]
              rw [e]
              exact (lv_sub hl [0, 1, 3, 4, 5, 6, 7] rfl))
  exact loop np 0 ls (by omega) (lv_sub hl [0, 1, 2, 3, 4, 5, 6] rfl)

set_option maxRecDepth 100000 in
set_option maxHeartbeats 4000000 in
/-- Swap.nextPayDay -/
theorem c_np (E : ET) (w : Nat) (T : Nat → Int32) (db dh bd : Nat) (bf : Nat → Int32) (bs hs : Dy) (np : Nat) (pa day : Int32) (H : Heap) (hn : T 6 = nI np) (hnp : np ≤ 10) (h : SRx E w T db dh bd bf bs hs H) : PCon E yX3_nextPayDay cX3_nextPayDay 5 (some FieldType.int) 6 [.ref w, .int pa, .int day] H (some (.int (npS T hs bf pa day np 0))) := by
  refine PCon.of (C := RX3) rfl (by decide +kernel) (Nat.le_of_ble_eq_true rfl) ?_
  intro p e s m below meth co ls hx hb hr hlk hml hown hts hE hH hl
  have hl : lv_has ls 5 [(0, .ref w), (1, .int pa), (2, .int day)] := hl
  obtain ⟨hO, hB, hHd, hA⟩ := id h
  refine lv_iconst (v := 0) hx hb dX3_nextPayDay_0 (by decide) ?_
  refine lv_istore_n (lv' := [(3, .int 0), (0, .ref w), (1, .int pa), (2, .int day)]) hx hb dX3_nextPayDay_1 rfl hl (by decide) rfl (fun ls hl => ?_)
  have loop : ∀ (n i : Nat) (ls : Array Slot), i + n = np → npS T hs bf pa day np 0 = npS T hs bf pa day n i → lv_has ls 5 [(3, .int (nI i)), (0, .ref w), (1, .int pa), (2, .int day)] → W p (eL E) e (rmk 6 0 0) s m ([.ref w, .int pa, .int day]).toArray below meth co H [] 0 0 (MQ below (PQ (some (.int (npS T hs bf pa day np 0)))) ([.ref w, .int pa, .int day]).toArray s 0 0 (fun _ => False)) (F0 m 2 ls []) := by
    intro n
    induction n with
    | zero =>
      intro i ls hi he hl
      have hi2 : i = np := by omega
      subst hi2
      refine lv_iload_n hx hb dX3_nextPayDay_2 rfl (lv_at hl 0 rfl) ?_
      refine lv_aload_n hx hb dX3_nextPayDay_3 rfl (lv_at hl 1 rfl) ?_
      refine gf hx hb hts hown hE lkX3_31 hO rfl dX3_nextPayDay_4 ?_
      refine lv_icmp_ge (tgt := 42) hx hb dX3_nextPayDay_7 (by decide) (fun c => ?_) (fun c => ?_)
      rotate_left
      · exact absurd (by rw [hn]; exact nI_le (Nat.le_refl _) (by omega)) c
      refine lv_iconst (v := (-1)) hx hb dX3_nextPayDay_42 (by decide) ?_
      exact pI hx hb hr hlk hH (by rw [he]; rfl) dX3_nextPayDay_43
    | succ n ih =>
      intro i ls hi he hl
      refine lv_iload_n hx hb dX3_nextPayDay_2 rfl (lv_at hl 0 rfl) ?_
      refine lv_aload_n hx hb dX3_nextPayDay_3 rfl (lv_at hl 1 rfl) ?_
      refine gf hx hb hts hown hE lkX3_31 hO rfl dX3_nextPayDay_4 ?_
      refine lv_icmp_ge (tgt := 42) hx hb dX3_nextPayDay_7 (by decide) (fun c => ?_) (fun c => ?_)
      · exact absurd c (by rw [hn]; exact nI_ge (by omega) (by omega))
      refine lv_aload_n hx hb dX3_nextPayDay_10 rfl (lv_at hl 1 rfl) ?_
      refine lv_iload_n hx hb dX3_nextPayDay_11 rfl (lv_at hl 0 rfl) ?_
      refine pV hx hb hml hts hown hE kwX3_95 (c_end E w T db dh bd bf bs hs i H (by omega) h) hO rfl (Nat.le_of_ble_eq_true rfl) rfl hl.1 rfl (Nat.le_of_ble_eq_true rfl) (Nat.le_refl _) (Nat.le_refl _) dX3_nextPayDay_12 ?_
      refine lv_istore (lv' := [(4, .int (bf (i + 1))), (3, .int (nI i)), (0, .ref w), (1, .int pa), (2, .int day)]) hx hb dX3_nextPayDay_15 hl (by decide) rfl (fun ls hl => ?_)
      refine lv_iload hx hb dX3_nextPayDay_17 (lv_at hl 0 rfl) ?_
      refine lv_iload_n hx hb dX3_nextPayDay_19 rfl (lv_at hl 4 rfl) ?_
      refine lv_icmp_lt (tgt := 36) hx hb dX3_nextPayDay_20 (by decide) (fun c1 => ?_) (fun c1 => ?_)
      · refine lv_iinc (v := nI (i + 1)) (lv' := [(3, .int (nI (i + 1))), (4, .int (bf (i + 1))), (0, .ref w), (1, .int pa), (2, .int day)]) hx hb dX3_nextPayDay_36 hl (k := 1) rfl (nI_1 i) (by decide) rfl (fun ls hl => ?_)
        refine lv_goto (tgt := 2) hx hb dX3_nextPayDay_39 (by decide) ?_
        exact ih (i + 1) ls (by omega) (he.trans (by simp only [npS]; rw [if_neg (fun q => absurd q.1 (Int32.not_le.mpr c1))])) (lv_sub hl [0, 2, 3, 4] rfl)
      · refine lv_aload_n hx hb dX3_nextPayDay_23 rfl (lv_at hl 2 rfl) ?_
        refine lv_iload hx hb dX3_nextPayDay_24 (lv_at hl 0 rfl) ?_
        refine pV hx hb hml hts hown hE kwX3_98 (c_hold E w T db dh bd bf bs hs (bf (i + 1)) H h) hO rfl (Nat.le_of_ble_eq_true rfl) rfl hl.1 rfl (Nat.le_of_ble_eq_true rfl) (Nat.le_refl _) (Nat.le_refl _) dX3_nextPayDay_26 ?_
        refine lv_iload_n hx hb dX3_nextPayDay_29 rfl (lv_at hl 3 rfl) ?_
        refine lv_icmp_ne (tgt := 36) hx hb dX3_nextPayDay_30 (by decide) (fun c3 => ?_) (fun c3 => ?_)
        · refine lv_iinc (v := nI (i + 1)) (lv' := [(3, .int (nI (i + 1))), (4, .int (bf (i + 1))), (0, .ref w), (1, .int pa), (2, .int day)]) hx hb dX3_nextPayDay_36 hl (k := 1) rfl (nI_1 i) (by decide) rfl (fun ls hl => ?_)
          refine lv_goto (tgt := 2) hx hb dX3_nextPayDay_39 (by decide) ?_
          exact ih (i + 1) ls (by omega) (he.trans (by simp only [npS]; rw [if_neg (fun q => c3 q.2)])) (lv_sub hl [0, 2, 3, 4] rfl)
        · refine lv_iload hx hb dX3_nextPayDay_33 (lv_at hl 0 rfl) ?_
          exact pI hx hb hr hlk hH (by rw [he]; simp only [npS]; rw [if_pos ⟨Int32.not_lt.mp c1, c3⟩]) dX3_nextPayDay_35
  exact loop np 0 ls (by omega) rfl (lv_sub hl [0, 1, 2, 3] rfl)
end
section
theorem smpS_no {T U : Nat → Int32} {hs hu : Dy} {bf : Nat → Int32} {day : Int32} {i : Nat} (c : bf i < day) : smpS T U hs hu bf day (i + 1) = smpS T U hs hu bf day i := by
  simp only [smpS]
  rw [if_neg (Int32.not_le.mpr c)]
theorem smpS_yes {T U : Nat → Int32} {hs hu : Dy} {bf : Nat → Int32} {day : Int32} {i : Nat} (c : ¬ bf i < day) : smpS T U hs hu bf day (i + 1) = (true, (smpS T U hs hu bf day i).2 && decide (hldS T hs (bf (i + 1)) = hldS U hu (bf (i + 1)))) := by
  simp only [smpS]
  rw [if_pos (Int32.not_lt.mp c)]
set_option maxRecDepth 100000 in
set_option maxHeartbeats 4000000 in
/-- Swap.fits -/
theorem c_fits (E : ET) (w x : Nat) (T U : Nat → Int32) (db dh bd dc di be : Nat) (H : Heap) (hO : OB E 4 (tfs T db dh bd) w H) (hU : OB E 4 (tfs U dc di be) x H) : PCon E yX3_fits cX3_fits 2 (some FieldType.boolean) 1 [.ref w, .ref x] H (some (.int (if fitS T U then 1 else 0))) := by
  refine PCon.of (C := RX3) rfl (by decide +kernel) (Nat.le_of_ble_eq_true rfl) ?_
  intro p e s m below meth co ls hx hb hr hlk hml hown hts hE hH hl
  have hl : lv_has ls 2 [(0, .ref w), (1, .ref x)] := hl
  refine lv_aload_n hx hb dX3_fits_0 rfl (lv_at hl 0 rfl) ?_
  refine gf hx hb hts hown hE lkX3_18 hO rfl dX3_fits_1 ?_
  refine lv_aload_n hx hb dX3_fits_4 rfl (lv_at hl 1 rfl) ?_
  refine gf hx hb hts hown hE lkX3_18 hU rfl dX3_fits_5 ?_
  refine lv_icmp_eq (tgt := 92) hx hb dX3_fits_8 (by decide) (fun c2 => ?_) (fun c2 => ?_)
  · refine lv_iconst (v := 0) hx hb dX3_fits_92 (by decide) ?_
    exact pZ hx hb hr hlk hH (by simp [fitS, c2]) dX3_fits_93
  · refine lv_aload_n hx hb dX3_fits_11 rfl (lv_at hl 0 rfl) ?_
    refine gf hx hb hts hown hE lkX3_22 hO rfl dX3_fits_12 ?_
    refine lv_aload_n hx hb dX3_fits_15 rfl (lv_at hl 1 rfl) ?_
    refine gf hx hb hts hown hE lkX3_22 hU rfl dX3_fits_16 ?_
    refine lv_icmp_ne (tgt := 92) hx hb dX3_fits_19 (by decide) (fun c3 => ?_) (fun c3 => ?_)
    · refine lv_iconst (v := 0) hx hb dX3_fits_92 (by decide) ?_
      exact pZ hx hb hr hlk hH (by simp [fitS, c2, c3]) dX3_fits_93
    · refine lv_aload_n hx hb dX3_fits_22 rfl (lv_at hl 0 rfl) ?_
      refine gf hx hb hts hown hE lkX3_34 hO rfl dX3_fits_23 ?_
      refine lv_aload_n hx hb dX3_fits_26 rfl (lv_at hl 1 rfl) ?_
      refine gf hx hb hts hown hE lkX3_34 hU rfl dX3_fits_27 ?_
      refine lv_icmp_ne (tgt := 92) hx hb dX3_fits_30 (by decide) (fun c7 => ?_) (fun c7 => ?_)
      · refine lv_iconst (v := 0) hx hb dX3_fits_92 (by decide) ?_
        exact pZ hx hb hr hlk hH (by simp [fitS, c2, c3, c7]) dX3_fits_93
      · refine lv_aload_n hx hb dX3_fits_33 rfl (lv_at hl 0 rfl) ?_
        refine gf hx hb hts hown hE lkX3_25 hO rfl dX3_fits_34 ?_
        refine lv_aload_n hx hb dX3_fits_37 rfl (lv_at hl 1 rfl) ?_
        refine gf hx hb hts hown hE lkX3_25 hU rfl dX3_fits_38 ?_
        refine lv_icmp_ne (tgt := 92) hx hb dX3_fits_41 (by decide) (fun c4 => ?_) (fun c4 => ?_)
        · refine lv_iconst (v := 0) hx hb dX3_fits_92 (by decide) ?_
          exact pZ hx hb hr hlk hH (by simp [fitS, c2, c3, c7, c4]) dX3_fits_93
        · refine lv_aload_n hx hb dX3_fits_44 rfl (lv_at hl 0 rfl) ?_
          refine gf hx hb hts hown hE lkX3_28 hO rfl dX3_fits_45 ?_
          refine lv_aload_n hx hb dX3_fits_48 rfl (lv_at hl 1 rfl) ?_
          refine gf hx hb hts hown hE lkX3_28 hU rfl dX3_fits_49 ?_
          refine lv_icmp_ne (tgt := 92) hx hb dX3_fits_52 (by decide) (fun c5 => ?_) (fun c5 => ?_)
          · refine lv_iconst (v := 0) hx hb dX3_fits_92 (by decide) ?_
            exact pZ hx hb hr hlk hH (by simp [fitS, c2, c3, c7, c4, c5]) dX3_fits_93
          · refine lv_aload_n hx hb dX3_fits_55 rfl (lv_at hl 0 rfl) ?_
            refine gf hx hb hts hown hE lkX3_31 hO rfl dX3_fits_56 ?_
            refine lv_aload_n hx hb dX3_fits_59 rfl (lv_at hl 1 rfl) ?_
            refine gf hx hb hts hown hE lkX3_31 hU rfl dX3_fits_60 ?_
            refine lv_icmp_ne (tgt := 92) hx hb dX3_fits_63 (by decide) (fun c6 => ?_) (fun c6 => ?_)
            · refine lv_iconst (v := 0) hx hb dX3_fits_92 (by decide) ?_
              exact pZ hx hb hr hlk hH (by simp [fitS, c2, c3, c7, c4, c5, c6]) dX3_fits_93
            · refine lv_aload_n hx hb dX3_fits_66 rfl (lv_at hl 0 rfl) ?_
              refine gf hx hb hts hown hE lkX3_37 hO rfl dX3_fits_67 ?_
              refine lv_aload_n hx hb dX3_fits_70 rfl (lv_at hl 1 rfl) ?_
              refine gf hx hb hts hown hE lkX3_37 hU rfl dX3_fits_71 ?_
              refine lv_icmp_ne (tgt := 92) hx hb dX3_fits_74 (by decide) (fun c8 => ?_) (fun c8 => ?_)
              · refine lv_iconst (v := 0) hx hb dX3_fits_92 (by decide) ?_
                exact pZ hx hb hr hlk hH (by simp [fitS, c2, c3, c7, c4, c5, c6, c8]) dX3_fits_93
              · refine lv_aload_n hx hb dX3_fits_77 rfl (lv_at hl 0 rfl) ?_
                refine gf hx hb hts hown hE lkX3_40 hO rfl dX3_fits_78 ?_
                refine lv_aload_n hx hb dX3_fits_81 rfl (lv_at hl 1 rfl) ?_
                refine gf hx hb hts hown hE lkX3_40 hU rfl dX3_fits_82 ?_
                refine lv_icmp_ne (tgt := 92) hx hb dX3_fits_85 (by decide) (fun c9 => ?_) (fun c9 => ?_)
                · refine lv_iconst (v := 0) hx hb dX3_fits_92 (by decide) ?_
                  exact pZ hx hb hr hlk hH (by simp [fitS, c2, c3, c7, c4, c5, c6, c8, c9]) dX3_fits_93
                · refine lv_iconst (v := 1) hx hb dX3_fits_88 (by decide) ?_
                  refine lv_goto (tgt := 93) hx hb dX3_fits_89 (by decide) ?_
                  exact pZ hx hb hr hlk hH (by simp [fitS, c2, c3, c7, c4, c5, c6, c8, c9]) dX3_fits_93

set_option maxRecDepth 100000 in
set_option maxHeartbeats 4000000 in
/-- Swap.isOfSamePartyFrom -/
theorem c_same (E : ET) (w : Nat) (T : Nat → Int32) (db dh bd : Nat) (bf : Nat → Int32) (bs hs : Dy) (x np : Nat) (U : Nat → Int32) (dc di be : Nat) (bg : Nat → Int32) (bu hu : Dy) (day : Int32) (H : Heap) (hn : T 6 = nI np) (hnp : np ≤ 10) (h : SRx E w T db dh bd bf bs hs H) (hU : SRx E x U dc di be bg bu hu H) : PCon E yX3_isOfSamePartyFrom cX3_isOfSamePartyFrom 6 (some FieldType.boolean) 6 [.ref w, .int day, .ref x] H (some (.int (if smeS T U hs hu bf day np then 1 else 0))) := by
  refine PCon.of (C := RX3) rfl (by decide +kernel) (Nat.le_of_ble_eq_true rfl) ?_
  intro p e s m below meth co ls hx hb hr hlk hml hown hts hE hH hl
  have hl : lv_has ls 6 [(0, .ref w), (1, .int day), (2, .ref x)] := hl
  obtain ⟨hO, hB, hHd, hA⟩ := id h
  obtain ⟨hOU, hBU, hHU, hAU⟩ := id hU
  refine lv_iconst (v := 0) hx hb dX3_isOfSamePartyFrom_0 (by decide) ?_
  refine lv_istore_n (lv' := [(3, .int 0), (0, .ref w), (1, .int day), (2, .ref x)]) hx hb dX3_isOfSamePartyFrom_1 rfl hl (by decide) rfl (fun ls hl => ?_)
  refine lv_iconst (v := 0) hx hb dX3_isOfSamePartyFrom_2 (by decide) ?_
  refine lv_istore (lv' := [(4, .int 0), (3, .int 0), (0, .ref w), (1, .int day), (2, .ref x)]) hx hb dX3_isOfSamePartyFrom_3 hl (by decide) rfl (fun ls hl => ?_)
  have loop : ∀ (n i : Nat) (ls : Array Slot), i + n = np → (smpS T U hs hu bf day i).2 = true → lv_has ls 6 [(4, .int (nI i)), (3, .int (if (smpS T U hs hu bf day i).1 then 1 else 0)), (0, .ref w), (1, .int day), (2, .ref x)] → W p (eL E) e (rmk 6 0 0) s m ([.ref w, .int day, .ref x]).toArray below meth co H [] 0 0 (MQ below (PQ (some (.int (if smeS T U hs hu bf day np then 1 else 0)))) ([.ref w, .int day, .ref x]).toArray s 0 0 (fun _ => False)) (F0 m 5 ls []) := by
    intro n
    induction n with
    | zero =>
      intro i ls hi ha hl
      have hi2 : i = np := by omega
      subst hi2
      refine lv_iload hx hb dX3_isOfSamePartyFrom_5 (lv_at hl 0 rfl) ?_
      refine lv_aload_n hx hb dX3_isOfSamePartyFrom_7 rfl (lv_at hl 2 rfl) ?_
      refine gf hx hb hts hown hE lkX3_31 hO rfl dX3_isOfSamePartyFrom_8 ?_
      refine lv_icmp_ge (tgt := 57) hx hb dX3_isOfSamePartyFrom_11 (by decide) (fun c => ?_) (fun c => ?_)
      rotate_left
      · exact absurd (by rw [hn]; exact nI_le (Nat.le_refl _) (by omega)) c
      refine lv_iload_n hx hb dX3_isOfSamePartyFrom_57 rfl (lv_at hl 1 rfl) ?_
      exact pZ hx hb hr hlk hH (by simp [smeS, ha]) dX3_isOfSamePartyFrom_58
    | succ n ih =>
      intro i ls hi ha hl
      refine lv_iload hx hb dX3_isOfSamePartyFrom_5 (lv_at hl 0 rfl) ?_
      refine lv_aload_n hx hb dX3_isOfSamePartyFrom_7 rfl (lv_at hl 2 rfl) ?_
      refine gf hx hb hts hown hE lkX3_31 hO rfl dX3_isOfSamePartyFrom_8 ?_
      refine lv_icmp_ge (tgt := 57) hx hb dX3_isOfSamePartyFrom_11 (by decide) (fun c => ?_) (fun c => ?_)
      · exact absurd c (by rw [hn]; exact nI_ge (by omega) (by omega))
      refine lv_aload_n hx hb dX3_isOfSamePartyFrom_14 rfl (lv_at hl 2 rfl) ?_
      refine lv_iload hx hb dX3_isOfSamePartyFrom_15 (lv_at hl 0 rfl) ?_
      refine pV hx hb hml hts hown hE kwX3_63 (c_start E w T db dh bd bf bs hs i H (by omega) h) hO rfl (Nat.le_of_ble_eq_true rfl) rfl hl.1 rfl (Nat.le_of_ble_eq_true rfl) (Nat.le_refl _) (Nat.le_refl _) dX3_isOfSamePartyFrom_17 ?_
      refine lv_iload_n hx hb dX3_isOfSamePartyFrom_20 rfl (lv_at hl 3 rfl) ?_
      refine lv_icmp_lt (tgt := 51) hx hb dX3_isOfSamePartyFrom_21 (by decide) (fun c1 => ?_) (fun c1 => ?_)
      · refine lv_iinc (v := nI (i + 1)) (lv' := [(4, .int (nI (i + 1))), (3, .int (if (smpS T U hs hu bf day i).1 then 1 else 0)), (0, .ref w), (1, .int day), (2, .ref x)]) hx hb dX3_isOfSamePartyFrom_51 hl (k := 0) rfl (nI_1 i) (by decide) rfl (fun ls hl => ?_)
        refine lv_goto (tgt := 5) hx hb dX3_isOfSamePartyFrom_54 (by decide) ?_
        exact ih (i + 1) ls (by omega) (by rw [smpS_no c1]; exact ha) (by
          have e : (if (smpS T U hs hu bf day (i + 1)).1 then (1 : Int32) else 0) = (if (smpS T U hs hu bf day i).1 then 1 else 0) := by rw [smpS_no c1]
          rw [e]
          exact (lv_sub hl [0, 1, 2, 3, 4] rfl))
      · refine lv_iconst (v := 1) hx hb dX3_isOfSamePartyFrom_24 (by decide) ?_
        refine lv_istore_n (lv' := [(3, .int 1), (4, .int (nI i)), (0, .ref w), (1, .int day), (2, .ref x)]) hx hb dX3_isOfSamePartyFrom_25 rfl hl (by decide) rfl (fun ls hl => ?_)
        refine lv_aload_n hx hb dX3_isOfSamePartyFrom_26 rfl (lv_at hl 2 rfl) ?_
        refine lv_iload hx hb dX3_isOfSamePartyFrom_27 (lv_at hl 1 rfl) ?_
        refine pV hx hb hml hts hown hE kwX3_95 (c_end E w T db dh bd bf bs hs i H (by omega) h) hO rfl (Nat.le_of_ble_eq_true rfl) rfl hl.1 rfl (Nat.le_of_ble_eq_true rfl) (Nat.le_refl _) (Nat.le_refl _) dX3_isOfSamePartyFrom_29 ?_
        refine lv_istore (lv' := [(5, .int (bf (i + 1))), (3, .int 1), (4, .int (nI i)), (0, .ref w), (1, .int day), (2, .ref x)]) hx hb dX3_isOfSamePartyFrom_32 hl (by decide) rfl (fun ls hl => ?_)
        refine lv_aload_n hx hb dX3_isOfSamePartyFrom_34 rfl (lv_at hl 3 rfl) ?_
        refine lv_iload hx hb dX3_isOfSamePartyFrom_35 (lv_at hl 0 rfl) ?_
        refine pV hx hb hml hts hown hE kwX3_98 (c_hold E w T db dh bd bf bs hs (bf (i + 1)) H h) hO rfl (Nat.le_of_ble_eq_true rfl) rfl hl.1 rfl (Nat.le_of_ble_eq_true rfl) (Nat.le_refl _) (Nat.le_refl _) dX3_isOfSamePartyFrom_37 ?_
        refine lv_aload_n hx hb dX3_isOfSamePartyFrom_40 rfl (lv_at hl 5 rfl) ?_
        refine lv_iload hx hb dX3_isOfSamePartyFrom_41 (lv_at hl 0 rfl) ?_
        refine pV hx hb hml hts hown hE kwX3_98 (c_hold E x U dc di be bg bu hu (bf (i + 1)) H hU) hOU rfl (Nat.le_of_ble_eq_true rfl) rfl hl.1 rfl (Nat.le_of_ble_eq_true rfl) (Nat.le_refl _) (Nat.le_refl _) dX3_isOfSamePartyFrom_43 ?_
        refine lv_icmp_eq (tgt := 51) hx hb dX3_isOfSamePartyFrom_46 (by decide) (fun c2 => ?_) (fun c2 => ?_)
        · refine lv_iinc (v := nI (i + 1)) (lv' := [(4, .int (nI (i + 1))), (5, .int (bf (i + 1))), (3, .int 1), (0, .ref w), (1, .int day), (2, .ref x)]) hx hb dX3_isOfSamePartyFrom_51 hl (k := 2) rfl (nI_1 i) (by decide) rfl (fun ls hl => ?_)
          refine lv_goto (tgt := 5) hx hb dX3_isOfSamePartyFrom_54 (by decide) ?_
          exact ih (i + 1) ls (by omega) (by rw [smpS_yes c1]; simp [ha, c2]) (by
            have e : (if (smpS T U hs hu bf day (i + 1)).1 then (1 : Int32) else 0) = 1 := by rw [smpS_yes c1]; rfl
            rw [e]
            exact (lv_sub hl [0, 2, 3, 4, 5] rfl))
        · refine lv_iconst (v := 0) hx hb dX3_isOfSamePartyFrom_49 (by decide) ?_
          have hf : (smpS T U hs hu bf day (i + 1)).2 = false := by rw [smpS_yes c1]; simp [c2]
          exact pZ hx hb hr hlk hH (by simp [smeS, smpS_f hf np (by omega)]) dX3_isOfSamePartyFrom_50
  exact loop np 0 ls (by omega) rfl (lv_sub hl [0, 1, 2, 3, 4] rfl)
end
section
/-! the rolled day is open: forty holidays don't close a thousand days -/
theorem pigeon {α : Type} [DecidableEq α] : ∀ (L : List α) (n : Nat) (f : Nat → α), (∀ j, j < n → f j ∈ L) → (∀ i j, i < n → j < n → f i = f j → i = j) → n ≤ L.length := by
  intro L
  induction L with
  | nil =>
    intro n f h _
    rcases Nat.eq_zero_or_pos n with q | q
    · omega
    · exact absurd (h 0 q) List.not_mem_nil
  | cons a L ih =>
    intro n f h inj
    by_cases c : ∃ j, j < n ∧ f j = a
    · obtain ⟨j0, hj0, e0⟩ := c
      have := ih (n - 1) (fun j => if j < j0 then f j else f (j + 1)) (fun j hj => by
        try dsimp only
        by_cases q : j < j0
        · rw [if_pos q]
          rcases List.mem_cons.mp (h j (by omega)) with r | r
          · exact absurd (inj j j0 (by omega) hj0 (r.trans e0.symm)) (by omega)
          · exact r
        · rw [if_neg q]
          rcases List.mem_cons.mp (h (j + 1) (by omega)) with r | r
          · exact absurd (inj (j + 1) j0 (by omega) hj0 (r.trans e0.symm)) (by omega)
          · exact r) (fun i j hi hj e => by
        try dsimp only at e
        by_cases qi : i < j0 <;> by_cases qj : j < j0
        · rw [if_pos qi, if_pos qj] at e; exact inj i j (by omega) (by omega) e
        · rw [if_pos qi, if_neg qj] at e; have := inj i (j + 1) (by omega) (by omega) e; omega
        · rw [if_neg qi, if_pos qj] at e; have := inj (i + 1) j (by omega) (by omega) e; omega
        · rw [if_neg qi, if_neg qj] at e; have := inj (i + 1) (j + 1) (by omega) (by omega) e; omega)
      rw [List.length_cons]
      omega
    · have := ih n f (fun j hj => by
        rcases List.mem_cons.mp (h j hj) with r | r
        · exact absurd ⟨j, hj, r⟩ c
        · exact r) inj
      rw [List.length_cons]
      omega
theorem ixL_mem {d : Int32} : ∀ (es : Dy) (i j : Nat), ixL d i es = some j → d ∈ es.map (·.1)
  | [], i, j, h => by simp [ixL] at h
  | x :: xs, i, j, h => by
    unfold ixL at h
    by_cases c : x.1 = d
    · simp [c]
    · rw [if_neg c] at h
      have := ixL_mem xs (i + 1) j h
      simp only [List.map_cons, List.mem_cons]
      exact Or.inr this
theorem ixL_of_mem {d : Int32} : ∀ (es : Dy) (i : Nat), d ∈ es.map (·.1) → (ixL d i es).isSome = true
  | [], i, h => by simp at h
  | x :: xs, i, h => by
    unfold ixL
    by_cases c : x.1 = d
    · rw [if_pos c]; rfl
    · rw [if_neg c]
      simp only [List.map_cons, List.mem_cons] at h
      exact ixL_of_mem xs (i + 1) (h.resolve_left (fun q => c q.symm))
theorem dHas_iff {es : Dy} {d : Int32} : dHas es d = true ↔ d ∈ es.map (·.1) := by
  constructor
  · intro h
    unfold dHas at h
    cases hx : ixL d 0 es with
    | none => rw [hx] at h; cases h
    | some j => exact ixL_mem es 0 j hx
  · exact ixL_of_mem es 0
theorem rolF_closed (h0 h1 : Dy) : ∀ n d, opn h0 h1 (rolF h0 h1 n d) = false → ∀ j, j < n → opn h0 h1 (d + j) = false
  | 0, d, _, j, hj => by omega
  | n + 1, d, h, j, hj => by
    unfold rolF at h
    cases c : opn h0 h1 d with
    | true => rw [c] at h; simp [c] at h
    | false =>
      rw [c] at h
      cases j with
      | zero => exact c
      | succ j =>
        have := rolF_closed h0 h1 n (d + 1) (by simpa using h) j (by omega)
        rw [show d + (j + 1) = d + 1 + j by omega]
        exact this
theorem rolF_least (h0 h1 : Dy) : ∀ n d e, d ≤ e → e < rolF h0 h1 n d → opn h0 h1 e = false
  | 0, d, e, h, h2 => by unfold rolF at h2; omega
  | n + 1, d, e, h, h2 => by
    unfold rolF at h2
    cases c : opn h0 h1 d with
    | true => rw [c] at h2; simp at h2; omega
    | false =>
      rw [c] at h2
      rcases Nat.eq_or_lt_of_le h with q | q
      · rw [← q]; exact c
      · exact rolF_least h0 h1 n (d + 1) e q (by simpa using h2)
theorem opn_rol {h0 h1 : Dy} (n0 : h0.length ≤ 20) (n1 : h1.length ≤ 20) {d : Nat} (hd : d < 2 ^ 30) : opn h0 h1 (rol h0 h1 d) = true := by
  cases c : opn h0 h1 (rol h0 h1 d) with
  | true => rfl
  | false =>
    have hc := rolF_closed h0 h1 1000 d c
    have := pigeon ((h0.map (·.1)) ++ (h1.map (·.1))) 41 (fun j => nI (d + ((7 - d % 7) % 7 + 7 * j))) (fun j hj => by
      have h1' := hc ((7 - d % 7) % 7 + 7 * j) (by omega)
      have hm : (d + ((7 - d % 7) % 7 + 7 * j)) % 7 < 5 := by omega
      unfold opn at h1'
      rw [decide_eq_true hm] at h1'
      rw [List.mem_append]
      cases a : dHas h0 (nI (d + ((7 - d % 7) % 7 + 7 * j))) with
      | true => exact Or.inl (dHas_iff.mp a)
      | false =>
        cases b : dHas h1 (nI (d + ((7 - d % 7) % 7 + 7 * j))) with
        | true => exact Or.inr (dHas_iff.mp b)
        | false => rw [a, b] at h1'; simp at h1') (fun i j hi hj e => by
      have := (nI_eq (by omega) (by omega)).mp e
      omega)
    simp at this
    omega
theorem rol_ge (h0 h1 : Dy) (d : Nat) : d ≤ rol h0 h1 d := (rolF_ge h0 h1 1000 d).1
theorem rol_le (h0 h1 : Dy) (d : Nat) : rol h0 h1 d ≤ d + 1000 := (rolF_ge h0 h1 1000 d).2
theorem rol_least {h0 h1 : Dy} {d e : Nat} (h : d ≤ e) (ho : opn h0 h1 e = true) : rol h0 h1 d ≤ e := by
  rcases Nat.lt_or_ge e (rol h0 h1 d) with q | q
  · rw [rolF_least h0 h1 1000 d e h q] at ho; cases ho
  · exact q
theorem rol_mono {h0 h1 : Dy} (n0 : h0.length ≤ 20) (n1 : h1.length ≤ 20) {d e : Nat} (he : e < 2 ^ 30) (h : d ≤ e) : rol h0 h1 d ≤ rol h0 h1 e :=
  rol_least (Nat.le_trans h (rol_ge h0 h1 e)) (opn_rol n0 n1 he)
theorem rol_open {h0 h1 : Dy} {d : Nat} (h : opn h0 h1 d = true) : rol h0 h1 d = d := by
  have := rol_least (Nat.le_refl d) h
  have := rol_ge h0 h1 d
  omega
theorem rol_next {h0 h1 : Dy} (n0 : h0.length ≤ 20) (n1 : h1.length ≤ 20) {d : Nat} (hd : d + 1 < 2 ^ 30) (h : opn h0 h1 d = false) : rol h0 h1 (d + 1) = rol h0 h1 d := by
  have a1 := rol_mono n0 n1 hd (Nat.le_succ d)
  have a2 : d + 1 ≤ rol h0 h1 d := by
    have := rol_ge h0 h1 d
    rcases Nat.eq_or_lt_of_le this with q | q
    · have := opn_rol n0 n1 (d := d) (by omega)
      rw [← q, h] at this
      cases this
    · exact q
  have := rol_least a2 (opn_rol n0 n1 (by omega))
  omega
end
section
/-! the reference's state beside the lists -/
abbrev BK : Type := List (Int32 × Int32 × Int32)
def dysIn (h : Dy) : Prop := ∀ x ∈ h, ∃ d, d ≤ 3000 ∧ x.1 = nI d
def TV (tr : TR) : Prop := ∃ pa lo f le n : Nat, pa ≤ 3 ∧ 1 ≤ lo ∧ lo ≤ 1000 ∧ f ≤ 1000 ∧ 5 ≤ le ∧ le ≤ 180 ∧ 1 ≤ n ∧ n ≤ 10 ∧ tr.1 0 = nI pa ∧ tr.1 1 = nI lo ∧ (tr.1 2 = 0 ∨ tr.1 2 = 1) ∧ tr.1 4 = nI f ∧ tr.1 5 = nI le ∧ tr.1 6 = nI n ∧ (tr.1 8 = 0 ∨ tr.1 8 = 1) ∧ (tr.1 9 = 0 ∨ tr.1 9 = 1 ∨ tr.1 9 = 2) ∧ dysIn tr.2.1 ∧ tr.2.2.length ≤ 10
def SV (h0 h1 fx : Dy) (ts : List TR) : Prop := h0.length ≤ 20 ∧ h1.length ≤ 20 ∧ dysIn h0 ∧ dysIn h1 ∧ dysIn fx ∧ fx.length ≤ 60 ∧ (fx.map (·.1)).Nodup ∧ ts.length ≤ 10 ∧ ∀ tr ∈ ts, TV tr
def bfC (h0 h1 : Dy) (T : Nat → Int32) (k : Nat) : Int32 := if k ≤ (T 6).toNatClampNeg then nI (rol h0 h1 ((T 4).toNatClampNeg + k * (T 5).toNatClampNeg)) else 0
theorem bfC_eq {h0 h1 : Dy} {T : Nat → Int32} {f le n k : Nat} (h4 : T 4 = nI f) (h5 : T 5 = nI le) (h6 : T 6 = nI n) (hf : f < 2 ^ 31) (hl : le < 2 ^ 31) (hn : n < 2 ^ 31) (hk : k ≤ n) : bfC h0 h1 T k = nI (rol h0 h1 (f + k * le)) := by
  unfold bfC
  rw [h4, h5, h6, nI_clamp hf, nI_clamp hl, nI_clamp hn, if_pos hk]
theorem dysIn_mem {h : Dy} (hI : dysIn h) {d : Int32} (hm : d ∈ h.map (·.1)) : ∃ k, k ≤ 3000 ∧ d = nI k := by
  obtain ⟨x, hx, rfl⟩ := List.mem_map.mp hm
  exact hI x hx
theorem dHas_out {h : Dy} (hI : dysIn h) {d : Nat} (h1 : 3000 < d) (h2 : d < 2 ^ 31) : dHas h (nI d) = false := by
  cases c : dHas h (nI d) with
  | false => rfl
  | true =>
    obtain ⟨k, hk, e⟩ := dysIn_mem hI (dHas_iff.mp c)
    have := (nI_eq h2 (by omega)).mp e
    omega
theorem lvL_skip {fx : Dy} (hI : dysIn fx) {a b : Nat} (hab : a ≤ b) (hb : b < 2 ^ 31) (hno : ∀ e, a < e → e ≤ b → e ≤ 3000 → dHas fx (nI e) = false) : ∀ lt v, lvL (nI b) lt v fx = lvL (nI a) lt v fx := by
  have key : ∀ x ∈ fx, (x.1 ≤ nI b ↔ x.1 ≤ nI a) := by
    intro x hx
    obtain ⟨k, hk, e⟩ := hI x hx
    rw [e, nI_leI (by omega) hb, nI_leI (by omega) (by omega)]
    constructor
    · intro h
      rcases Nat.lt_or_ge a k with q | q
      · have := hno k q h hk
        have h2 : dHas fx (nI k) = true := dHas_iff.mpr (List.mem_map.mpr ⟨x, hx, e⟩)
        rw [this] at h2; cases h2
      · exact q
    · intro h; omega
  clear hI hno
  induction fx with
  | nil => intro lt v; rfl
  | cons x xs ih =>
    intro lt v
    have hk := key x List.mem_cons_self
    have ih := ih (fun y hy => key y (List.mem_cons_of_mem _ hy))
    unfold lvL
    by_cases c : x.1 ≤ nI a ∧ lt ≤ x.1
    · rw [if_pos c, if_pos ⟨hk.mpr c.1, c.2⟩]; exact ih _ _
    · rw [if_neg c, if_neg (fun q => c ⟨hk.mp q.1, q.2⟩)]; exact ih _ _
theorem lvL_past {day w : Int32} : ∀ (es : Dy) , (∀ x ∈ es, ¬ x.1 = day) → lvL day day w es = w
  | [], _ => rfl
  | x :: xs, h => by
    unfold lvL
    rw [if_neg (fun q => h x List.mem_cons_self (Int32.le_antisymm q.1 q.2))]
    exact lvL_past xs (fun y hy => h y (List.mem_cons_of_mem _ hy))
theorem lvL_hit {day w : Int32} : ∀ (es : Dy) (lt v : Int32), lt ≤ day → (day, w) ∈ es → (es.map (·.1)).Nodup → lvL day lt v es = w
  | [], _, _, _, h, _ => absurd h List.not_mem_nil
  | x :: xs, lt, v, hlt, hm, hn => by
    unfold lvL
    rw [List.map_cons, List.nodup_cons] at hn
    rcases List.mem_cons.mp hm with e | e
    · subst e
      rw [if_pos ⟨Int32.le_refl _, hlt⟩]
      exact lvL_past xs (fun y hy q => hn.1 (List.mem_map.mpr ⟨y, hy, q⟩))
    · by_cases c : x.1 ≤ day ∧ lt ≤ x.1
      · rw [if_pos c]; exact lvL_hit xs _ _ c.1 e hn.2
      · rw [if_neg c]; exact lvL_hit xs _ _ hlt e hn.2
theorem lvL_none {day : Int32} : ∀ (es : Dy) (lt v : Int32), (∀ x ∈ es, ¬ x.1 ≤ day) → lvL day lt v es = v
  | [], _, _, _ => rfl
  | x :: xs, lt, v, h => by
    unfold lvL
    rw [if_neg (fun q => h x List.mem_cons_self q.1)]
    exact lvL_none xs lt v (fun y hy => h y (List.mem_cons_of_mem _ hy))
end
section
theorem ii_m1 (x : Int32) : x + Int32.ofInt (-1) = x - 1 := by
  rw [Int32.sub_eq_add_neg]
  rfl
def inB (v lo hi : Int32) : Bool := decide (lo ≤ v) && decide (v ≤ hi)
end
section
/-- the flows of the first k periods of a trade, one by one added to v -/
def sumK (h0 h1 fx : Dy) (pa d1 d2 : Int32) (tr : TR) (v : Int64) : Nat → Int64
  | 0 => v
  | k + 1 => sumK h0 h1 fx pa d1 d2 tr v k + (if inB (bfC h0 h1 tr.1 (k + 1)) d1 d2 = true ∧ hldS tr.1 tr.2.2 (bfC h0 h1 tr.1 (k + 1)) = pa then flwS tr.1 tr.2.1 (bfC h0 h1 tr.1) fx k else 0)
def sumS (h0 h1 fx : Dy) (pa d1 d2 : Int32) : Int64 → List TR → Int64
  | v, [] => v
  | v, tr :: us => sumS h0 h1 fx pa d1 d2 (sumK h0 h1 fx pa d1 d2 tr v (tr.1 6).toNatClampNeg) us
end
section
section IMP
variable {p : Program} {e : Env} {R : Room} {s : State} {m : MethodId} {args : Array Value} {below : List Frame} {meth : Method} {c : Code} {H H0 : Heap} {locs : List Loc} {cells slots : Nat} {Q : State → Prop}
variable {cc : ByteArray} {pc nL : Nat} {ls : Array Slot} {rest st0 : List Value} {E : ET} {own : String}
variable {idx k k' mc ms mc' ms' n mL a ci N : Nat} {y : MethodName} {b : ByteArray} {ret : Option FieldType} {As : List Value} {v : Value} {fs : List Value} {T : u_T}
/-- what has changed since H0: cells of M alone, and new ones -/
def FR (M : Nat → Prop) (H0 H : Heap) : Prop := H0.size ≤ H.size ∧ ∀ q : Nat, q < H0.size → ¬ M q → H[q]? = H0[q]?
theorem FR.rf {M : Nat → Prop} {H : Heap} : FR M H H := ⟨Nat.le_refl _, fun _ _ _ => rfl⟩
theorem FR.put {M : Nat → Prop} {H0 H H1 : Heap} {a : Nat} (h : FR M H0 H) (z : H1.size = H.size) (o : ∀ q : Nat, q ≠ a → H1[q]? = H[q]?) (ha : a < H0.size → M a) : FR M H0 H1 :=
  ⟨by rw [z]; exact h.1, fun q hq hm => (o q (fun e => hm (e ▸ ha (e ▸ hq)))).trans (h.2 q hq hm)⟩
theorem FR.new {M : Nat → Prop} {H0 H H1 : Heap} (h : FR M H0 H) (z : H.size ≤ H1.size) (o : ∀ q : Nat, q < H.size → H1[q]? = H[q]?) : FR M H0 H1 :=
  ⟨Nat.le_trans h.1 z, fun q hq hm => (o q (Nat.lt_of_lt_of_le hq h.1)).trans (h.2 q hq hm)⟩
theorem FR.tr {M M1 : Nat → Prop} {H0 H H1 : Heap} (h : FR M H0 H) (h1 : FR M1 H H1) (hm : ∀ q : Nat, q < H0.size → M1 q → M q) : FR M H0 H1 :=
  ⟨Nat.le_trans h.1 h1.1, fun q hq hn => (h1.2 q (Nat.lt_of_lt_of_le hq h.1) (fun x => hn (hm q hq x))).trans (h.2 q hq hn)⟩
theorem FR.at {M : Nat → Prop} {H0 H : Heap} {a : Nat} {x : va_E} (h : FR M H0 H) (ho : va_P (eD E) vwCl [(a, x)] H0) (hm : ¬ M a) : va_P (eD E) vwCl [(a, x)] H := pk1 ho (h.2 a (plt ho) hm)
theorem pk2 {H1 : Heap} {a b : Nat} {x : va_E} (h : va_P (eD E) vwCl [(b, x)] H) (o : ∀ q : Nat, q ≠ a → H1[q]? = H[q]?) (hn : b ≠ a) : va_P (eD E) vwCl [(b, x)] H1 := pk1 h (o b hn)
theorem pk3 {H1 : Heap} {b : Nat} {x : va_E} (h : va_P (eD E) vwCl [(b, x)] H) (o : ∀ q : Nat, q < H.size → H1[q]? = H[q]?) : va_P (eD E) vwCl [(b, x)] H1 := pk1 h (o b (plt h))
theorem SFR (h : va_S (fr E) s.heap H locs) {H1 : Heap} {a i : Nat} (z : H1.size = H.size) (o : ∀ q : Nat, q ≠ a → H1[q]? = H[q]?) (ha : eB E ≤ a) : va_S (fr E) s.heap H1 (locs ++ [⟨a, i⟩]) := va_S.put h z o ha
theorem EVp (hE : EV E s H) {H1 : Heap} {a : Nat} (z : H1.size = H.size) (o : ∀ q : Nat, q ≠ a → H1[q]? = H[q]?) (ha : eB E ≤ a) : EV E s H1 := hE.kept (Nat.le_of_eq z.symm) (fun q hq => o q (fun e => by omega))
theorem EVn (hE : EV E s H) {H1 : Heap} (z : H.size ≤ H1.size) (o : ∀ q : Nat, q < H.size → H1[q]? = H[q]?) : EV E s H1 := hE.kept z (fun q hq => o q (Nat.lt_of_lt_of_le hq hE.2.1))
theorem SFn (h : va_S (fr E) s.heap H locs) {H1 : Heap} (z : H.size ≤ H1.size) (o : ∀ q : Nat, q < H.size → H1[q]? = H[q]?) : va_S (fr E) s.heap H1 locs := ⟨Nat.le_trans h.1 z, fun q h1 h2 => (o q (Nat.lt_of_lt_of_le h1 h.1)).trans (h.2.1 q h1 h2), h.2.2⟩
theorem one9 {a : Nat} {x : va_E} {H : Heap} (h : va_at (eD E) vwCl (a, x) H) : va_P (eD E) vwCl [(a, x)] H := fun k q hk => by
  cases k with
  | zero => cases hk; exact h
  | succ k => cases hk
/-! putfield -/
def PK (own : String) (idx : Nat) (C : String) (T : u_T) (N ci k : Nat) (ref : String) (ty0 : Nat → FieldType) : Prop := LK own idx C T N ci k ref ∧ (∀ j, j < N → parseFieldDescriptor (T j).2.2.1 = some (ty0 j)) ∧ (∀ i, i < N → ∀ j, j < N → i ≠ j → (T i).2.1 ≠ (T j).2.1)
theorem pf {C : String} {k : Nat} {ref : String} {ty0 : Nat → FieldType} (hx : p.tables.exec = Jvm.exec) (hb : c.code = cc) (hts : ∀ w ∈ Tw, w.before args s = true) (hown : s.vm.findClass own = some m.cls) (hE : EV E s H) (hS : va_S (fr E) s.heap H locs) (hk : PK own idx C T N ci k ref ty0) (hfin : (T k).2.2.2 = false) (hO : OB E ci fs a H) (ha : eB E ≤ a) (hn : narrow (ty0 k) v = v) (hfit : fits (ty0 k) v = true) (hl : k < fs.length) (hdg : decode cc pc = .ok (.putfield idx, 3))
    (kk : ∀ (H1 : Heap) (locs1 : List Loc), OB E ci (fs.set k v) a H1 → H1.size = H.size → (∀ q : Nat, q ≠ a → H1[q]? = H[q]?) → EV E s H1 → va_S (fr E) s.heap H1 locs1 → W p (eL E) e R s m args below meth c H1 locs1 cells slots Q (F0 m (pc + 3) ls rest)) : W p (eL E) e R s m args below meth c H locs cells slots Q (F0 m pc ls (v :: .ref a :: rest)) := by
  obtain ⟨hlk, hty, hnm⟩ := hk
  have hK := hE.K
  have hap := va_apart (own := own) hts hlk.1 ty0 hty hnm hK hlk.2.1
  obtain ⟨r, h1, cell, q1, q2, q3, q4⟩ := hO 0 _ rfl
  have hr : r = (C, T, N) := Option.some.inj (h1.symm.trans hlk.2.1)
  subst hr
  obtain ⟨hSl, hfc, kC, hkC, hkind⟩ := hK.1 ci _ hlk.2.1
  obtain ⟨cf, kf, fi, f, hi, hsl⟩ := hSl k hlk.2.2.1
  have hlay := hts _ (hlk.1 _ (u_in_lay hlk.2.2.1))
  unfold u_lay at hlay
  rw [if_neg (by rw [hfin]; decide)] at hlay
  have hst := (u_facts hfc hkC (u_lays hts hlk.1 hlk.2.2.1) hi).1
  have h6 := u_store hfc hkC hkind hlay hi (hty k hlk.2.2.1) hn hfit
  refine W.putK hx hb (f := f) ⟨hown, hts _ hlk.2.2.2.1, ⟨_, _, _, hlk.same hts _ hi⟩, hst⟩ (by rw [q2]; exact h6) q1 q3 (by rw [hsl]; exact k2_hasslot (q4 k hlk.2.2.1)) rfl rfl hdg fun H' e1 e2 e3 => ?_
  rw [hsl] at e1 ⊢
  exact kk H' _ (one9 ⟨_, hlk.2.1, t_OB.to (V := updV (vp_V fs) k v) ⟨_, e1, q2, q3, t_set q4 hap hlk.2.2.1 v⟩ (fun j _ => vp_updV_set hl v j)⟩) e2 e3 (EVp hE e2 e3 ha) (SFR hS e2 e3 ha)
/-- .. a final field, in its class's constructor -/
theorem pfF {C : String} {k : Nat} {ref : String} {ty0 : Nat → FieldType} (hx : p.tables.exec = Jvm.exec) (hb : c.code = cc) (hts : ∀ w ∈ Tw, w.before args s = true) (hown : s.vm.findClass own = some m.cls) (hin2 : meth.name = "<init>") (hE : EV E s H) (hS : va_S (fr E) s.heap H locs) (hk : PK own idx C T N ci k ref ty0) (hfin : (T k).2.2.2 = true) (hdecl : (T k).1 = own) (hO : OB E ci fs a H) (ha : eB E ≤ a) (hn : narrow (ty0 k) v = v) (hfit : fits (ty0 k) v = true) (hl : k < fs.length) (hdg : decode cc pc = .ok (.putfield idx, 3))
    (kk : ∀ (H1 : Heap) (locs1 : List Loc), OB E ci (fs.set k v) a H1 → H1.size = H.size → (∀ q : Nat, q ≠ a → H1[q]? = H[q]?) → EV E s H1 → va_S (fr E) s.heap H1 locs1 → W p (eL E) e R s m args below meth c H1 locs1 cells slots Q (F0 m (pc + 3) ls rest)) : W p (eL E) e R s m args below meth c H locs cells slots Q (F0 m pc ls (v :: .ref a :: rest)) := by
  obtain ⟨hlk, hty, hnm⟩ := hk
  have hK := hE.K
  have hap := va_apart (own := own) hts hlk.1 ty0 hty hnm hK hlk.2.1
  obtain ⟨r, h1, cell, q1, q2, q3, q4⟩ := hO 0 _ rfl
  have hr : r = (C, T, N) := Option.some.inj (h1.symm.trans hlk.2.1)
  subst hr
  obtain ⟨hSl, hfc, kC, hkC, hkind⟩ := hK.1 ci _ hlk.2.1
  obtain ⟨cf, kf, fi, f, hi, hsl⟩ := hSl k hlk.2.2.1
  have hlay := hts _ (hlk.1 _ (u_in_lay hlk.2.2.1))
  unfold u_lay at hlay
  rw [if_pos hfin] at hlay
  have hst := (u_facts hfc hkC (u_lays hts hlk.1 hlk.2.2.1) hi).1
  have hcf : m.cls = cf := by
    obtain ⟨_, _, c', _, _, _, -, -, hf', -, -, -, hown2, -⟩ := Cond.laysFinal_spec hlay
    have e1 : c' = cf := by have := hi.symm.trans hf'; simp at this; exact this.1.symm
    rw [hdecl] at hown2
    rw [← e1]; exact Option.some.inj (hown.symm.trans hown2)
  have h6 := u_fits hfc hkC hkind (Or.inr hlay) hi (hty k hlk.2.2.1) hn hfit
  refine W.putFinK hx hb hown (hts _ hlk.2.2.2.1) (hlk.same hts _ hi) hst hcf hin2 (by rw [q2]; exact h6) q1 q3 (by rw [hsl]; exact k2_hasslot (q4 k hlk.2.2.1)) rfl rfl hdg fun H' e1 e2 e3 => ?_
  rw [hsl] at e1 ⊢
  exact kk H' _ (one9 ⟨_, hlk.2.1, t_OB.to (V := updV (vp_V fs) k v) ⟨_, e1, q2, q3, t_set q4 hap hlk.2.2.1 v⟩ (fun j _ => vp_updV_set hl v j)⟩) e2 e3 (EVp hE e2 e3 ha) (SFR hS e2 e3 ha)
/-! array stores -/
theorem asI {f : Nat → Int32} {j : Nat} {i x : Int32} (hx : p.tables.exec = Jvm.exec) (hb : c.code = cc) (hE : EV E s H) (hS : va_S (fr E) s.heap H locs) (hA : IA E n f a H) (ha : eB E ≤ a) (hi : i = nI j) (hj : j < n) (hn : n < 2 ^ 31) (hdg : decode cc pc = .ok (.iastore, 1))
    (kk : ∀ (H1 : Heap) (locs1 : List Loc), IA E n (upd f j x) a H1 → H1.size = H.size → (∀ q : Nat, q ≠ a → H1[q]? = H[q]?) → EV E s H1 → va_S (fr E) s.heap H1 locs1 → W p (eL E) e R s m args below meth c H1 locs1 cells slots Q (F0 m (pc + 1) ls rest)) : W p (eL E) e R s m args below meth c H locs cells slots Q (F0 m pc ls (.int x :: .int i :: .ref a :: rest)) := by
  subst hi
  refine W.iast hx hb (hA 0 _ rfl) ((hE.K.2 0 _ rfl).1 n (fun j => .int (f j))) (fun q => by cases q) (by show ¬ (nI j < 0 ∨ (arrV _ _ _).slots.size ≤ _); rw [arrV_size]; exact vp_in_nI hj hn) rfl rfl hdg fun H1 e z oq => ?_
  refine kk H1 _ (one9 ?_) z oq (EVp hE z oq ha) (SFR hS z oq ha)
  show H1[a]? = some (vp_cell _ _)
  rw [e]
  rw [vp_cell_i, vp_cell_i, arrV_store, nI_clamp (by omega)]
  congr 2
  funext q
  by_cases hq : q = j
  · subst hq
    simp [updV, upd]
  · simp [updV, upd, hq]
theorem asQ {f : Nat → Option Nat} {j v : Nat} {i : Int32} {C : String} (hx : p.tables.exec = Jvm.exec) (hb : c.code = cc) (hE : EV E s H) (hS : va_S (fr E) s.heap H locs) (hA : QA E n f a H) (ha : eB E ≤ a) (hO : OB E ci fs v H) (hc : vwCl[ci]? = some (C, T, N)) (hca : (C, xO) ∈ casL) (hi : i = nI j) (hj : j < n) (hn : n < 2 ^ 31) (hdg : decode cc pc = .ok (.aastore, 1))
    (kk : ∀ (H1 : Heap) (locs1 : List Loc), QA E n (va_up f j (some v)) a H1 → H1.size = H.size → (∀ q : Nat, q ≠ a → H1[q]? = H[q]?) → EV E s H1 → va_S (fr E) s.heap H1 locs1 → W p (eL E) e R s m args below meth c H1 locs1 cells slots Q (F0 m (pc + 1) ls rest)) : W p (eL E) e R s m args below meth c H locs cells slots Q (F0 m pc ls (.ref v :: .int i :: .ref a :: rest)) := by
  subst hi
  have hin := vp_in_nI hj hn
  have h0 : ¬ nI j < 0 := fun q => hin (Or.inl q)
  have hca : va_Nw (.castable C xO) s := hE.2.2.2.2.2.2.2.2.2.1 (C, xO) hca
  obtain ⟨r', hr', cellV, g1, g2, g3, -⟩ := hO 0 _ rfl
  have hcls := (hE.K.1 ci _ hc).2
  obtain ⟨kA, comp, k1, k2, k3, -⟩ := (hE.K.2 2 _ rfl).2
  obtain ⟨kE, hkE, -⟩ := Vm.findClass_spec k3
  obtain ⟨c0, t1, f1, f2, f3⟩ := Cond.castable_spec (va_Nw.use (A := args) rfl hca)
  cases hcls.1.symm.trans f1
  cases k3.symm.trans f2
  obtain ⟨kC, hkC, -⟩ := hcls.2
  refine W.aast hx hb (hA 0 _ rfl) (fun q h => by cases h) (fun h => by cases h) k1 k2 rfl hkE ⟨h0, by show _ < (arrV _ _ _).slots.size; rw [arrV_size, nI_clamp (by omega)]; exact hj⟩ g1 (fun q h => by rw [g3] at h; cases h) (by rw [g2]; exact hkC) (by rw [g2]; exact f3) rfl rfl hdg fun H1 e z oq => ?_
  refine kk H1 _ (one9 ?_) z oq (EVp hE z oq ha) (SFR hS z oq ha)
  show H1[a]? = some (vp_cell _ _)
  rw [e]
  rw [vp_cell_q, vp_cell_q, arrV_store, nI_clamp (by omega)]
  congr 2
  funext q
  by_cases hq : q = j
  · subst hq
    simp [updV, va_up, va_rf]
  · simp [updV, va_up, hq]
/-! new objects and arrays -/
def NK (own : String) (idx : Nat) (C : String) (T : u_T) (N ci : Nat) (ty0 : Nat → FieldType) : Prop := (∀ w ∈ u_ws C T N, w ∈ Tw) ∧ vwCl[ci]? = some (C, T, N) ∧ Cond.classLink own idx C ∈ Tw ∧ Cond.instantiable C N ∈ Tw ∧ Cond.initialized C ∈ Tw ∧ (∀ j, j < N → parseFieldDescriptor (T j).2.2.1 = some (ty0 j))
theorem nw {C : String} {ty0 : Nat → FieldType} (hx : p.tables.exec = Jvm.exec) (hb : c.code = cc) (hts : ∀ w ∈ Tw, w.before args s = true) (hown : s.vm.findClass own = some m.cls) (hE : EV E s H) (hS : va_S (fr E) s.heap H locs) (hk : NK own idx C T N ci ty0) (hfs : ∀ j, j < N → defaultValue (ty0 j) = vp_V fs j) (hc : cells + 1 ≤ mc) (hs : slots + N ≤ ms) (hdg : decode cc pc = .ok (.new idx, 3))
    (kk : ∀ (a : Nat) (H1 : Heap), a = H.size → OB E ci fs a H1 → H1.size = H.size + 1 → (∀ q : Nat, q < H.size → H1[q]? = H[q]?) → EV E s H1 → va_S (fr E) s.heap H1 locs → eB E ≤ a → W p (eL E) e (rmk k mc ms) s m args below meth c H1 locs (cells + 1) (slots + N) Q (F0 m (pc + 3) ls (.ref a :: rest))) : W p (eL E) e (rmk k mc ms) s m args below meth c H locs cells slots Q (F0 m pc ls rest) := by
  obtain ⟨h1, h2, h3, h4, h5, h6⟩ := hk
  have hKn := hE.K.1 ci _ h2
  refine W.newcK hx hb hown (hts _ h3) (hts _ h4) (hts _ h5) rfl hdg hc hs hKn.2.1 rfl fun H1 kC hkC e1 z1 o1 => ?_
  exact kk H.size H1 rfl (one9 ⟨_, h2, (u_born ty0 hts h1 hKn hkC e1 h6).to hfs⟩) z1 o1 (EVn hE (by omega) o1) (SFn hS (by omega) o1) hE.2.1
theorem naI {z : Int32} {N' : Nat} (hx : p.tables.exec = Jvm.exec) (hb : c.code = cc) (hts : ∀ w ∈ Tw, w.before args s = true) (hE : EV E s H) (hS : va_S (fr E) s.heap H locs) (hw : Cond.arrayClass .int ∈ Tw) (hz : z = nI N') (hN : N' ≤ 100000) (hc : cells + 1 ≤ mc) (hs : slots + N' ≤ ms) (hdg : decode cc pc = .ok (.newarray .int, 2))
    (kk : ∀ (a : Nat) (H1 : Heap), a = H.size → IA E N' (fun _ => 0) a H1 → H1.size = H.size + 1 → (∀ q : Nat, q < H.size → H1[q]? = H[q]?) → EV E s H1 → va_S (fr E) s.heap H1 locs → eB E ≤ a → W p (eL E) e (rmk k mc ms) s m args below meth c H1 locs (cells + 1) (slots + N') Q (F0 m (pc + 2) ls (.ref a :: rest))) : W p (eL E) e (rmk k mc ms) s m args below meth c H locs cells slots Q (F0 m pc ls (.int z :: rest)) := by
  subst hz
  refine va_newaK hx hb (atype := .int) (hts _ hw) rfl hdg rfl (nI_pos (by omega)) (nI_clamp (by omega)) (by show N' * 4 ≤ _; omega) hc hs rfl fun H1 cA e1 z1 o1 hAr hNm => ?_
  have hcA : cA = eA E 0 := Option.some.inj (hNm.symm.trans (hE.K.2 0 _ rfl).2)
  subst hcA
  exact kk H.size H1 rfl (one9 e1) z1 o1 (EVn hE (by omega) o1) (SFn hS (by omega) o1) hE.2.1
theorem naQ {z : Int32} {N' : Nat} (hx : p.tables.exec = Jvm.exec) (hb : c.code = cc) (hts : ∀ w ∈ Tw, w.before args s = true) (hown : s.vm.findClass own = some m.cls) (hE : EV E s H) (hS : va_S (fr E) s.heap H locs) (hw : Cond.classLink own idx xO ∈ Tw) (hz : z = nI N') (hN : N' ≤ 100000) (hc : cells + 1 ≤ mc) (hs : slots + N' ≤ ms) (hdg : decode cc pc = .ok (.anewarray idx, 3))
    (kk : ∀ (a : Nat) (H1 : Heap), a = H.size → QA E N' (fun _ => none) a H1 → H1.size = H.size + 1 → (∀ q : Nat, q < H.size → H1[q]? = H[q]?) → EV E s H1 → va_S (fr E) s.heap H1 locs → eB E ≤ a → W p (eL E) e (rmk k mc ms) s m args below meth c H1 locs (cells + 1) (slots + N') Q (F0 m (pc + 3) ls (.ref a :: rest))) : W p (eL E) e (rmk k mc ms) s m args below meth c H locs cells slots Q (F0 m pc ls (.int z :: rest)) := by
  subst hz
  refine W.anew hx hb hown (hts _ hw) (va_AO.use hE.2.2.2.2.2.2.2.2.2.2.2.2.2.1) rfl hdg rfl (nI_pos (by omega)) (by rw [nI_clamp (by omega)]; omega) hc (by rw [nI_clamp (by omega)]; exact hs) fun cA kA comp f1 f2 f3 f4 => ?_
  rw [nI_clamp (by omega)]
  generalize hH1 : H.push ({ cls := cA, slots := Array.replicate N' .null, vm := .none } : Cell) = H1
  have z1 : H1.size = H.size + 1 := by rw [← hH1, Array.size_push]
  have e1 : H1[H.size]? = some (arrV cA N' (fun _ => .null)) := by rw [← hH1, Array.getElem?_push_size, ← arrV_new]
  have o1 : ∀ q : Nat, q < H.size → H1[q]? = H[q]? := fun q hq => by rw [← hH1, Array.getElem?_push, if_neg (Nat.ne_of_lt hq)]
  have hcA : cA = eA E 2 := by
    obtain ⟨kA2, comp2, k1, k2, k3, k4⟩ := (hE.K.2 2 _ rfl).2
    exact Option.some.inj (f1.symm.trans k4)
  subst hcA
  exact kk H.size H1 rfl (one9 (by show H1[H.size]? = some (vp_cell _ _); rw [vp_cell_q]; exact e1)) z1 o1 (EVn hE (by omega) o1) (SFn hS (by omega) o1) hE.2.1
end IMP
end
section
section GC
variable {p : Program} {e : Env} {R : Room} {s : State} {m : MethodId} {args : Array Value} {below : List Frame} {meth : Method} {c : Code} {H H0 : Heap} {locs : List Loc} {cells slots : Nat} {Q : State → Prop}
variable {cc : ByteArray} {pc nL : Nat} {ls : Array Slot} {rest st0 : List Value} {E : ET} {own : String}
variable {idx k k' mc ms mc' ms' n mL a ci N : Nat} {y : MethodName} {b : ByteArray} {ret : Option FieldType} {As : List Value} {v : Value} {fs : List Value} {T : u_T}
/-- what a changing method says: its answer r, its world behind it -/
abbrev o1 (r : Option Value) (G : Heap → Prop) : Option Value → Heap → Prop := fun v H' => v = r ∧ G H'
theorem va_S.tr9 (hS : va_S (fr E) s.heap H locs) {H1 : Heap} {L : List Loc} (hB : eB E ≤ s.heap.size) (hz : H.size ≤ H1.size) (hq : ∀ q : Nat, q < eB E → H1[q]? = H[q]?) (hL : ∀ q ∈ L, fr E q.base) : va_S (fr E) s.heap H1 (locs ++ L) :=
  ⟨Nat.le_trans hS.1 hz, fun q h1 h2 => (hq q (Nat.lt_of_not_le h2)).trans (hS.2.1 q h1 h2), fun z hz => (List.mem_append.mp hz).elim (hS.2.2 z) (hL z)⟩
theorem g_go {r : Option Value} {G : Heap → Prop} {a : Array Value} (hB : eB E ≤ s.heap.size) (hE : EV E s H) (hS : va_S (fr E) s.heap H locs) (hr : va_Run p (eL E) e R s m args below meth c H locs cells slots mc ms (F0 m pc ls st0) rest (CQ E (o1 r G) a) (fr E))
    (kk : ∀ (H1 : Heap) (locs1 : List Loc), G H1 → H.size ≤ H1.size → EV E s H1 → va_S (fr E) s.heap H1 locs1 → W p (eL E) e R s m args below meth c H1 locs1 (cells + mc) (slots + ms) Q (F0 m (pc + 3) ls (r.toList ++ rest))) : W p (eL E) e R s m args below meth c H locs cells slots Q (F0 m pc ls st0) := by
  intro T hT X
  obtain ⟨w, st₀, t, T', L, e0, X', hL, e1, e2, hq, hgo⟩ := hr T hT X
  obtain ⟨v, q1, ⟨q2, q3⟩, q4, q5⟩ := hq
  have hw : w = v := by injection q1
  subst hw q2
  rw [e0] at q4 q5
  obtain ⟨t2, a1, b1⟩ := kk t.heap (locs ++ L) q3 q4 (hE.kept q4 q5) (hS.tr9 hB q4 q5 hL) T' e1 X'
  exact ⟨t2, hgo t2 a1, b1⟩
theorem gV {r : Value} {G : Heap → Prop} (hx : p.tables.exec = Jvm.exec) (hb : c.code = cc) (hml : c.maxLocals = nL) (hts : ∀ w ∈ Tw, w.before args s = true) (hown : s.vm.findClass own = some m.cls) (hB : eB E ≤ s.heap.size) (hE : EV E s H) (hS : va_S (fr E) s.heap H locs) (kw : kwV own idx y b mL ret n) (hM : Con E y b mL ret k' mc' ms' (.ref a :: As) H (o1 (some r) G)) (hO : OB E ci fs a H) (hc : vwCl[ci]? = some (y.cls, T, N)) (hk : k' + 1 ≤ k) (hn : As.length = n) (hl : ls.size = nL) (hst : st0 = As.reverse ++ .ref a :: rest) (hW : (rest.map fun v => v.category).sum ≤ 8) (hcs : cells + mc' ≤ mc) (hss : slots + ms' ≤ ms) (hdg : decode cc pc = .ok (.invokevirtual idx, 3))
    (kk : ∀ (H1 : Heap) (locs1 : List Loc), G H1 → H.size ≤ H1.size → EV E s H1 → va_S (fr E) s.heap H1 locs1 → W p (eL E) e (rmk k mc ms) s m args below meth c H1 locs1 (cells + mc') (slots + ms') Q (F0 m (pc + 3) ls (r :: rest))) : W p (eL E) e (rmk k mc ms) s m args below meth c H locs cells slots Q (F0 m pc ls st0) :=
  g_go hB hE hS (va_runV (g := F0 m pc ls st0) (As := As) (rest := rest) ⟨hx, hb, hml, hown, hts⟩ hM (cwV9 hts kw hk) ⟨PC.blind, recv9 hE hO hc, fun U hU hW => ⟨rfl, hU, by rw [hU]; exact hE.warm hW⟩⟩ rfl hn hl hst (lv_room hW) hdg ⟨hcs, hss⟩) kk
theorem gVU {G : Heap → Prop} (hx : p.tables.exec = Jvm.exec) (hb : c.code = cc) (hml : c.maxLocals = nL) (hts : ∀ w ∈ Tw, w.before args s = true) (hown : s.vm.findClass own = some m.cls) (hB : eB E ≤ s.heap.size) (hE : EV E s H) (hS : va_S (fr E) s.heap H locs) (kw : kwV own idx y b mL ret n) (hM : Con E y b mL ret k' mc' ms' (.ref a :: As) H (o1 none G)) (hO : OB E ci fs a H) (hc : vwCl[ci]? = some (y.cls, T, N)) (hk : k' + 1 ≤ k) (hn : As.length = n) (hl : ls.size = nL) (hst : st0 = As.reverse ++ .ref a :: rest) (hW : (rest.map fun v => v.category).sum ≤ 8) (hcs : cells + mc' ≤ mc) (hss : slots + ms' ≤ ms) (hdg : decode cc pc = .ok (.invokevirtual idx, 3))
    (kk : ∀ (H1 : Heap) (locs1 : List Loc), G H1 → H.size ≤ H1.size → EV E s H1 → va_S (fr E) s.heap H1 locs1 → W p (eL E) e (rmk k mc ms) s m args below meth c H1 locs1 (cells + mc') (slots + ms') Q (F0 m (pc + 3) ls rest)) : W p (eL E) e (rmk k mc ms) s m args below meth c H locs cells slots Q (F0 m pc ls st0) :=
  g_go hB hE hS (va_runV (g := F0 m pc ls st0) (As := As) (rest := rest) ⟨hx, hb, hml, hown, hts⟩ hM (cwV9 hts kw hk) ⟨PC.blind, recv9 hE hO hc, fun U hU hW => ⟨rfl, hU, by rw [hU]; exact hE.warm hW⟩⟩ rfl hn hl hst (lv_room hW) hdg ⟨hcs, hss⟩) kk
theorem gS {r : Value} {G : Heap → Prop} (hx : p.tables.exec = Jvm.exec) (hb : c.code = cc) (hml : c.maxLocals = nL) (hts : ∀ w ∈ Tw, w.before args s = true) (hown : s.vm.findClass own = some m.cls) (hB : eB E ≤ s.heap.size) (hE : EV E s H) (hS : va_S (fr E) s.heap H locs) (kw : kwS own idx y b mL ret n) (hM : Con E y b mL ret k' mc' ms' As H (o1 (some r) G)) (hk : k' + 1 ≤ k) (hn : As.length = n) (hl : ls.size = nL) (hst : st0 = As.reverse ++ rest) (hW : (rest.map fun v => v.category).sum ≤ 8) (hcs : cells + mc' ≤ mc) (hss : slots + ms' ≤ ms) (hdg : decode cc pc = .ok (.invokestatic idx, 3))
    (kk : ∀ (H1 : Heap) (locs1 : List Loc), G H1 → H.size ≤ H1.size → EV E s H1 → va_S (fr E) s.heap H1 locs1 → W p (eL E) e (rmk k mc ms) s m args below meth c H1 locs1 (cells + mc') (slots + ms') Q (F0 m (pc + 3) ls (r :: rest))) : W p (eL E) e (rmk k mc ms) s m args below meth c H locs cells slots Q (F0 m pc ls st0) :=
  g_go hB hE hS (va_runS (g := F0 m pc ls st0) (As := As) (rest := rest) ⟨hx, hb, hml, hown, hts⟩ hM (cwS9 hts kw hk) ⟨PC.blind, fun U hU hW => ⟨rfl, hU, by rw [hU]; exact hE.warm hW⟩⟩ rfl hn hl hst (lv_room hW) hdg ⟨hcs, hss⟩) kk
theorem gI {G : Heap → Prop} (hx : p.tables.exec = Jvm.exec) (hb : c.code = cc) (hml : c.maxLocals = nL) (hts : ∀ w ∈ Tw, w.before args s = true) (hown : s.vm.findClass own = some m.cls) (hB : eB E ≤ s.heap.size) (hE : EV E s H) (hS : va_S (fr E) s.heap H locs) (kw : kwI own idx y b mL n) (hM : Con E y b mL none k' mc' ms' (.ref a :: As) H (o1 none G)) (hk : k' + 1 ≤ k) (hn : As.length = n) (hl : ls.size = nL) (hst : st0 = As.reverse ++ .ref a :: rest) (hW : (rest.map fun v => v.category).sum ≤ 8) (hcs : cells + mc' ≤ mc) (hss : slots + ms' ≤ ms) (hdg : decode cc pc = .ok (.invokespecial idx, 3))
    (kk : ∀ (H1 : Heap) (locs1 : List Loc), G H1 → H.size ≤ H1.size → EV E s H1 → va_S (fr E) s.heap H1 locs1 → W p (eL E) e (rmk k mc ms) s m args below meth c H1 locs1 (cells + mc') (slots + ms') Q (F0 m (pc + 3) ls rest)) : W p (eL E) e (rmk k mc ms) s m args below meth c H locs cells slots Q (F0 m pc ls st0) :=
  g_go hB hE hS (va_runI (g := F0 m pc ls st0) (As := As) (rest := rest) ⟨hx, hb, hml, hown, hts⟩ hM (cwI9 hts kw hk) ⟨PC.blind, fun U hU hW => ⟨rfl, hU, by rw [hU]; exact hE.warm hW⟩⟩ rfl hn hl hst (lv_room hW) hdg ⟨hcs, hss⟩) kk
/-! Object.<init> -/
theorem oI (hx : p.tables.exec = Jvm.exec) (hb : c.code = cc) (hml : c.maxLocals = nL) (hts : ∀ w ∈ Tw, w.before args s = true) (hown : s.vm.findClass own = some m.cls) (h1 : Cond.methodLink own idx objectInit ∈ Tw) (h2 : Cond.instanceMethod objectInit ∈ Tw) (h3 : Cond.code objectInit ⟨#[0xb1]⟩ 1 none ∈ Tw) (hk : 1 ≤ k) (hl : ls.size = nL) (hW : (rest.map fun v => v.category).sum ≤ 8) (hdg : decode cc pc = .ok (.invokespecial idx, 3))
    (kk : W p (eL E) e (rmk k mc ms) s m args below meth c H locs cells slots Q (F0 m (pc + 3) ls rest)) : W p (eL E) e (rmk k mc ms) s m args below meth c H locs cells slots Q (F0 m pc ls (.ref a :: rest)) := by
  refine W.objInit hx hb hown (hts _ h1) (hts _ h2) (hts _ h3) (g := F0 m pc ls (.ref a :: rest)) rfl (by rw [hml]; exact hl) rfl hdg hk ?_ kk
  show 2 * 0 + _ + 12 ≤ 40 * k
  omega
/-! calls of methods that may throw -/
theorem x_go {out : Option Value → Heap → Prop} {bad : String → Prop} {a : Array Value} (hB : eB E ≤ s.heap.size) (hE : EV E s H) (hS : va_S (fr E) s.heap H locs) (hr : vx_Run p (eL E) e R s m args below meth c H locs cells slots mc ms (F0 m pc ls st0) rest (CQ E out a) (XQ E bad) (fr E))
    (kx : ∀ (X : String) (ce : Cell) (q9 : Addr) (H1 : Heap) (locs1 : List Loc), bad X → H.size ≤ H1.size → (∀ q : Nat, q < H.size → H1[q]? = H[q]?) → EV E s H1 → va_S (fr E) s.heap H1 locs1 → H1[q9]? = some ce → ce.vm = .none → s.vm.findClass X = some ce.cls → vx_W p (eL E) e R s m args below meth c H1 locs1 (cells + mc) (slots + ms) Q (F0 m pc ls rest) q9)
    (kk : ∀ (v : Option Value) (H1 : Heap) (locs1 : List Loc), out v H1 → H.size ≤ H1.size → EV E s H1 → va_S (fr E) s.heap H1 locs1 → W p (eL E) e R s m args below meth c H1 locs1 (cells + mc) (slots + ms) Q (F0 m (pc + 3) ls (v.toList ++ rest))) : W p (eL E) e R s m args below meth c H locs cells slots Q (F0 m pc ls st0) := by
  intro T hT X
  rcases hr T hT X with ⟨w, st₀, t, T', L, e0, X', hL, e1, e2, hq, hgo⟩ | ⟨q9, st₀, t, T', L, En, ce, e0, X', hL, e1, e2, hq, hce, hcv, hcl, hgo⟩
  · obtain ⟨v, q1, q3, q4, q5⟩ := hq
    have hw : w = v := by injection q1
    subst hw
    rw [e0] at q4 q5
    obtain ⟨t2, a1, b1⟩ := kk w t.heap (locs ++ L) q3 q4 (hE.kept q4 q5) (hS.tr9 hB q4 q5 hL) T' e1 X'
    exact ⟨t2, hgo t2 a1, b1⟩
  · obtain ⟨q1, q4, q5⟩ := hq
    rw [e0] at q4 q5
    have q6 : ∀ q : Nat, q < eB E → t.heap[q]? = H[q]? := fun q hq => q5 q (Nat.lt_of_lt_of_le hq hE.2.1)
    obtain ⟨t2, a1, b1⟩ := kx En ce q9 t.heap (locs ++ L) q1 q4 q5 (hE.kept q4 q6) (hS.tr9 hB q4 q6 hL) hce hcv hcl T' e1 X'
    exact ⟨t2, hgo.trans a1, b1⟩
/-- what is thrown there goes on to the caller: nothing has been changed yet -/
theorem x_out {out2 : Option Value → Heap → Prop} {bad2 : String → Prop} {X : String} {ce : Cell} {q9 : Addr} {H1 : Heap} (hxt : ∀ x ∈ c.exceptionTable.toList, False) (hlk : meth.locks = false) (hH : s.heap = H) (hz : H.size ≤ H1.size) (ho : ∀ q : Nat, q < H.size → H1[q]? = H[q]?) (hS : va_S (fr E) s.heap H1 locs) (hcell : H1[q9]? = some ce) (hv : ce.vm = .none) (hcl : s.vm.findClass X = some ce.cls) (hbad : bad2 X) (hc : cells ≤ mc) (hs : slots ≤ ms) : vx_W p (eL E) e R s m args below meth c H1 locs cells slots (vx_MQ below (CQ E out2) (XQ E bad2) args s mc ms (fr E)) (F0 m pc ls rest) q9 :=
  vx_out (fun x hx => (hxt x hx).elim) hlk hcell hv hcl (fun t ht _ => ⟨hbad, by rw [ht, hH]; exact hz, fun q hq => by rw [ht]; rw [hH] at hq ⊢; exact ho q hq⟩) hS.2.2 hc hs
theorem xVc {out out2 : Option Value → Heap → Prop} {bad bad2 : String → Prop} (hx : p.tables.exec = Jvm.exec) (hb : c.code = cc) (hml : c.maxLocals = nL) (hlk : meth.locks = false) (hxt : ∀ x ∈ c.exceptionTable.toList, False) (hts : ∀ w ∈ Tw, w.before args s = true) (hown : s.vm.findClass own = some m.cls) (hB : eB E ≤ s.heap.size) (hE : EV E s H) (hH : s.heap = H) (hS : va_S (fr E) s.heap H locs) (kw : kwV own idx y b mL ret n) (hM : XCon E y b mL ret k' mc' ms' (.ref a :: As) H out bad) (hbad : ∀ X, bad X → bad2 X) (hO : OB E ci fs a H) (hc : vwCl[ci]? = some (y.cls, T, N)) (hk : k' + 1 ≤ k) (hn : As.length = n) (hl : ls.size = nL) (hst : st0 = As.reverse ++ .ref a :: rest) (hW : (rest.map fun v => v.category).sum ≤ 8) (hcs : cells + mc' ≤ mc) (hss : slots + ms' ≤ ms) (hdg : decode cc pc = .ok (.invokevirtual idx, 3))
    (kk : ∀ (v : Option Value) (H1 : Heap) (locs1 : List Loc), out v H1 → H.size ≤ H1.size → EV E s H1 → va_S (fr E) s.heap H1 locs1 → W p (eL E) e (rmk k mc ms) s m args below meth c H1 locs1 (cells + mc') (slots + ms') (vx_MQ below (CQ E out2) (XQ E bad2) args s mc ms (fr E)) (F0 m (pc + 3) ls (v.toList ++ rest))) : W p (eL E) e (rmk k mc ms) s m args below meth c H locs cells slots (vx_MQ below (CQ E out2) (XQ E bad2) args s mc ms (fr E)) (F0 m pc ls st0) :=
  x_go hB hE hS (vx_runV (g := F0 m pc ls st0) (As := As) (rest := rest) ⟨hx, hb, hml, hown, hts⟩ hM (cwV9 hts kw hk) ⟨PC.blind, recv9 hE hO hc, fun U hU hW => ⟨rfl, hU, by rw [hU]; exact hE.warm hW⟩⟩ rfl hn hl hst (lv_room hW) hdg ⟨hcs, hss⟩)
    (fun X ce q9 H1 locs1 h1 h2 h3 h4 h5 h6 h7 h8 => x_out hxt hlk hH h2 h3 h5 h6 h7 h8 (hbad X h1) hcs hss) kk
theorem xSc {out out2 : Option Value → Heap → Prop} {bad bad2 : String → Prop} (hx : p.tables.exec = Jvm.exec) (hb : c.code = cc) (hml : c.maxLocals = nL) (hlk : meth.locks = false) (hxt : ∀ x ∈ c.exceptionTable.toList, False) (hts : ∀ w ∈ Tw, w.before args s = true) (hown : s.vm.findClass own = some m.cls) (hB : eB E ≤ s.heap.size) (hE : EV E s H) (hH : s.heap = H) (hS : va_S (fr E) s.heap H locs) (kw : kwS own idx y b mL ret n) (hM : XCon E y b mL ret k' mc' ms' As H out bad) (hbad : ∀ X, bad X → bad2 X) (hk : k' + 1 ≤ k) (hn : As.length = n) (hl : ls.size = nL) (hst : st0 = As.reverse ++ rest) (hW : (rest.map fun v => v.category).sum ≤ 8) (hcs : cells + mc' ≤ mc) (hss : slots + ms' ≤ ms) (hdg : decode cc pc = .ok (.invokestatic idx, 3))
    (kk : ∀ (v : Option Value) (H1 : Heap) (locs1 : List Loc), out v H1 → H.size ≤ H1.size → EV E s H1 → va_S (fr E) s.heap H1 locs1 → W p (eL E) e (rmk k mc ms) s m args below meth c H1 locs1 (cells + mc') (slots + ms') (vx_MQ below (CQ E out2) (XQ E bad2) args s mc ms (fr E)) (F0 m (pc + 3) ls (v.toList ++ rest))) : W p (eL E) e (rmk k mc ms) s m args below meth c H locs cells slots (vx_MQ below (CQ E out2) (XQ E bad2) args s mc ms (fr E)) (F0 m pc ls st0) :=
  x_go hB hE hS (vx_runS (g := F0 m pc ls st0) (As := As) (rest := rest) ⟨hx, hb, hml, hown, hts⟩ hM (cwS9 hts kw hk) ⟨PC.blind, fun U hU hW => ⟨rfl, hU, by rw [hU]; exact hE.warm hW⟩⟩ rfl hn hl hst (lv_room hW) hdg ⟨hcs, hss⟩)
    (fun X ce q9 H1 locs1 h1 h2 h3 h4 h5 h6 h7 h8 => x_out hxt hlk hH h2 h3 h5 h6 h7 h8 (hbad X h1) hcs hss) kk
end GC
/-! throws: 'throw new E("text")' in the class itself -/
theorem txI0 : ∀ w ∈ (vx_atS RX4 34 "java/lang/IndexOutOfBoundsException" ["java/lang/RuntimeException", "java/lang/Exception"]).filter goodWord, w ∈ lw_tbl := by decide +kernel
theorem txS0 : ∀ w ∈ (vx_atS RX4 57 "java/lang/IllegalStateException" ["java/lang/RuntimeException", "java/lang/Exception"]).filter goodWord, w ∈ lw_tbl := by decide +kernel
theorem txA0 : ∀ w ∈ (vx_atS RX4 180 "java/lang/IllegalArgumentException" ["java/lang/RuntimeException", "java/lang/Exception"]).filter goodWord, w ∈ lw_tbl := by decide +kernel
def TXw (ik ic : Nat) (X : String) : Prop := (∀ w ∈ (vx_atS RX4 ic X ["java/lang/RuntimeException", "java/lang/Exception"]).filter goodWord, w ∈ lw_tbl) ∧ (∀ w ∈ (vx_atS RX4 ic X ["java/lang/RuntimeException", "java/lang/Exception"]).filter (fun w => !goodWord w), w ∈ ([Cond.castable X X, .declares ⟨"java/lang/RuntimeException", "<init>", "(Ljava/lang/String;)V"⟩, .declares ⟨"java/lang/Exception", "<init>", "(Ljava/lang/String;)V"⟩, .declares ⟨"java/lang/Throwable", "<init>", "(Ljava/lang/String;)V"⟩] : List Cond)) ∧ (X, X) ∈ casL ∧ Cond.classLink RX4 ik X ∈ Tw ∧ Cond.initialized X ∈ Tw ∧ (∀ w ∈ Cond.classLink RX4 ik X :: Cond.initialized X :: vx_atS RX4 ic X ["java/lang/RuntimeException", "java/lang/Exception"], vx_ot w = true) ∧ Bundle.fit X = true
theorem tS {p : Program} {e : Env} {s : State} {m : MethodId} {args : Array Value} {below : List Frame} {meth : Method} {c : Code} {H : Heap} {locs : List Loc} {cells slots k mc ms ik ic is pc nL : Nat} {cc : ByteArray} {ls : Array Slot} {rest : List Value} {E : ET} {X text : String} {out2 : Option Value → Heap → Prop} {bad2 : String → Prop}
    (hx : p.tables.exec = Jvm.exec) (hb : c.code = cc) (hml : c.maxLocals = nL) (hlk : meth.locks = false) (hxt : ∀ x ∈ c.exceptionTable.toList, False) (hts : ∀ w ∈ Tw, w.before args s = true) (hown : s.vm.findClass RX4 = some m.cls) (hE : EV E s s.heap) (hH : s.heap = H) (hS : va_S (fr E) s.heap H locs) (hw : TXw ik ic X) (hstr : (is, text) ∈ strL) (hbad : bad2 X) (hl : ls.size = nL) (hW : (rest.map fun v => v.category).sum ≤ 8) (hk : 6 ≤ k) (hc : cells + 1 ≤ mc) (hs : slots + 6 ≤ ms)
    (d0 : decode cc pc = .ok (.new ik, 3)) (d3 : decode cc (pc + 3) = .ok (.dup, 1)) (d4 : decode cc (pc + 4) = .ok (.ldc is, 2)) (d6 : decode cc (pc + 6) = .ok (.invokespecial ic, 3)) (d9 : decode cc (pc + 9) = .ok (.athrow, 1)) :
    W p (eL E) e (rmk k mc ms) s m args below meth c H locs cells slots (vx_MQ below (CQ E out2) (XQ E bad2) args s mc ms (fr E)) (F0 m pc ls rest) := by
  obtain ⟨w1, w2, w3, w4, w5, w6, w7⟩ := hw
  obtain ⟨sa, hsa⟩ := hE.2.2.2.2.2.2.2.2.1 (is, text) hstr
  have hca : va_Nw (.castable X X) s := hE.2.2.2.2.2.2.2.2.2.1 (X, X) w3
  have hD := hE.2.2.2.2.2.2.2.2.2.2.2.2.2.2
  refine vx_throwS (own := RX4) (cls := X) (text := text) (names := ["java/lang/RuntimeException", "java/lang/Exception"]) (sa := sa) hx hb hE.2.2.2.2.2.2.2.1 hown w7 (by decide +kernel) (hts _ w4) (hts _ w5) hsa
    (vx_hat (fun w hw => hts w (List.mem_filter.mpr ⟨w1 w hw, (List.mem_filter.mp hw).2⟩)) w2 (vx_c (va_Nw.use rfl hca) (vx_c (va_Nw.use rfl (hD _ (by decide))) (vx_c (va_Nw.use rfl (hD _ (by decide))) (vx_c (va_Nw.use rfl (hD _ (by decide))) vx_n))))) w6 hE.2.2.2.2.2.1 hE.2.2.2.2.2.2.1 hS (by rw [hml]; exact hl) d0 d3 d4 d6 d9 (fun x hx => (hxt x hx).elim) (by show 2 + 3 < k; omega) (by show _ + (13 * (2 + 1) + 43) ≤ 40 * k; omega) hc hs hlk ?_ hS.2.2 hc hs
  intro t _ hz ho
  subst hH
  exact ⟨hbad, hz, ho⟩
theorem txI : TXw 30 34 xI := ⟨txI0, by decide +kernel, by decide, qw1_96, qw1_10, by decide +kernel, by decide +kernel⟩
theorem txS : TXw 53 57 xS := ⟨txS0, by decide +kernel, by decide, qw1_218, qw1_12, by decide +kernel, by decide +kernel⟩
theorem txA : TXw 176 180 xA := ⟨txA0, by decide +kernel, by decide, qw1_167, qw1_11, by decide +kernel, by decide +kernel⟩
end
section
theorem pkJx4a65c_9 : PK RJx4a65c 9 RJx4a65c TJx4a65c 3 0 1 "java/util/ArrayList" tyJx4a65c := ⟨lkJx4a65c_9, tyJx4a65c_ok, nmJx4a65c⟩
theorem pkJx4a65c_48 : PK RJx4a65c 48 RJx4a65c TJx4a65c 3 0 2 "java/util/ArrayList" tyJx4a65c := ⟨lkJx4a65c_48, tyJx4a65c_ok, nmJx4a65c⟩
theorem pkJxc12de_7 : PK RJxc12de 7 RJx4a65c TJx4a65c 3 0 0 "java/util/AbstractList" tyJx4a65c := ⟨lkJxc12de_7, tyJx4a65c_ok, nmJx4a65c⟩
theorem pkJx4a65c_63 : PK RJx4a65c 63 RJx4a65c TJx4a65c 3 0 0 "java/util/ArrayList" tyJx4a65c := ⟨lkJx4a65c_63, tyJx4a65c_ok, nmJx4a65c⟩
theorem pkX1_12 : PK RX1 12 RX1 TX1 1 2 0 "Resetline$Diary" tyX1 := ⟨lkX1_12, tyX1_ok, nmX1⟩
theorem pkX0_12 : PK RX0 12 RX0 TX0 2 1 0 "Resetline$Calendar" tyX0 := ⟨lkX0_12, tyX0_ok, nmX0⟩
theorem pkX0_18 : PK RX0 18 RX0 TX0 2 1 1 "Resetline$Calendar" tyX0 := ⟨lkX0_18, tyX0_ok, nmX0⟩
theorem pkX4_10 : PK RX4 10 RX4 TX4 3 5 0 "Resetline" tyX4 := ⟨lkX4_10, tyX4_ok, nmX4⟩
theorem pkX4_19 : PK RX4 19 RX4 TX4 3 5 1 "Resetline" tyX4 := ⟨lkX4_19, tyX4_ok, nmX4⟩
theorem pkX4_26 : PK RX4 26 RX4 TX4 3 5 2 "Resetline" tyX4 := ⟨lkX4_26, tyX4_ok, nmX4⟩
theorem pkX2_7 : PK RX2 7 RX2 TX2 2 3 0 "Resetline$Entry" tyX2 := ⟨lkX2_7, tyX2_ok, nmX2⟩
theorem pkX1_45 : PK RX1 45 RX2 TX2 2 3 0 "Resetline$Entry" tyX2 := ⟨lkX1_45, tyX2_ok, nmX2⟩
theorem pkX2_13 : PK RX2 13 RX2 TX2 2 3 1 "Resetline$Entry" tyX2 := ⟨lkX2_13, tyX2_ok, nmX2⟩
theorem pkX1_37 : PK RX1 37 RX2 TX2 2 3 1 "Resetline$Entry" tyX2 := ⟨lkX1_37, tyX2_ok, nmX2⟩
theorem pkX3_9 : PK RX3 9 RX3 TX3 13 4 0 "Resetline$Swap" tyX3 := ⟨lkX3_9, tyX3_ok, nmX3⟩
theorem pkX3_15 : PK RX3 15 RX3 TX3 13 4 1 "Resetline$Swap" tyX3 := ⟨lkX3_15, tyX3_ok, nmX3⟩
theorem pkX3_18 : PK RX3 18 RX3 TX3 13 4 2 "Resetline$Swap" tyX3 := ⟨lkX3_18, tyX3_ok, nmX3⟩
theorem pkX3_22 : PK RX3 22 RX3 TX3 13 4 3 "Resetline$Swap" tyX3 := ⟨lkX3_22, tyX3_ok, nmX3⟩
theorem pkX3_25 : PK RX3 25 RX3 TX3 13 4 4 "Resetline$Swap" tyX3 := ⟨lkX3_25, tyX3_ok, nmX3⟩
theorem pkX3_28 : PK RX3 28 RX3 TX3 13 4 5 "Resetline$Swap" tyX3 := ⟨lkX3_28, tyX3_ok, nmX3⟩
theorem pkX3_31 : PK RX3 31 RX3 TX3 13 4 6 "Resetline$Swap" tyX3 := ⟨lkX3_31, tyX3_ok, nmX3⟩
theorem pkX4_190 : PK RX4 190 RX3 TX3 13 4 6 "Resetline$Swap" tyX3 := ⟨lkX4_190, tyX3_ok, nmX3⟩
theorem pkX3_34 : PK RX3 34 RX3 TX3 13 4 7 "Resetline$Swap" tyX3 := ⟨lkX3_34, tyX3_ok, nmX3⟩
theorem pkX3_37 : PK RX3 37 RX3 TX3 13 4 8 "Resetline$Swap" tyX3 := ⟨lkX3_37, tyX3_ok, nmX3⟩
theorem pkX3_40 : PK RX3 40 RX3 TX3 13 4 9 "Resetline$Swap" tyX3 := ⟨lkX3_40, tyX3_ok, nmX3⟩
theorem pkX3_46 : PK RX3 46 RX3 TX3 13 4 10 "Resetline$Swap" tyX3 := ⟨lkX3_46, tyX3_ok, nmX3⟩
theorem pkX4_106 : PK RX4 106 RX3 TX3 13 4 10 "Resetline$Swap" tyX3 := ⟨lkX4_106, tyX3_ok, nmX3⟩
theorem pkX3_50 : PK RX3 50 RX3 TX3 13 4 11 "Resetline$Swap" tyX3 := ⟨lkX3_50, tyX3_ok, nmX3⟩
theorem pkX4_126 : PK RX4 126 RX3 TX3 13 4 11 "Resetline$Swap" tyX3 := ⟨lkX4_126, tyX3_ok, nmX3⟩
theorem pkX3_53 : PK RX3 53 RX3 TX3 13 4 12 "Resetline$Swap" tyX3 := ⟨lkX3_53, tyX3_ok, nmX3⟩
theorem nkX4_7 : NK RX4 7 RX0 TX0 2 1 tyX0 := ⟨iwX0, rfl, qw1_29, qw1_30, qw1_2, tyX0_ok⟩
theorem nkX0_9 : NK RX0 9 RX1 TX1 1 2 tyX1 := ⟨iwX1, rfl, qw1_35, qw1_36, qw1_3, tyX1_ok⟩
theorem nkX1_9 : NK RX1 9 RJx4a65c TJx4a65c 3 0 tyJx4a65c := ⟨iwJx4a65c, rfl, qw1_41, qw1_42, qw1_6, tyJx4a65c_ok⟩
theorem nkX4_16 : NK RX4 16 RX1 TX1 1 2 tyX1 := ⟨iwX1, rfl, qw1_78, qw1_36, qw1_3, tyX1_ok⟩
theorem nkX4_23 : NK RX4 23 RJx4a65c TJx4a65c 3 0 tyJx4a65c := ⟨iwJx4a65c, rfl, qw1_80, qw1_42, qw1_6, tyJx4a65c_ok⟩
theorem nkX1_26 : NK RX1 26 RX2 TX2 2 3 tyX2 := ⟨iwX2, rfl, qw1_217, qw1_238, qw1_20, tyX2_ok⟩
theorem nkX4_90 : NK RX4 90 RX3 TX3 13 4 tyX3 := ⟨iwX3, rfl, qw2_74, qw2_120, qw1_13, tyX3_ok⟩
theorem nkX3_43 : NK RX3 43 RX1 TX1 1 2 tyX1 := ⟨iwX1, rfl, qw2_125, qw1_36, qw1_3, tyX1_ok⟩
theorem qnGC : Cond.native ⟨"java/lang/Object", "getClass", "()Ljava/lang/Class;"⟩ ∈ Tw := tw2 53 rfl rfl
theorem qnAC : Cond.native arraycopyName ∈ Tw := tw2 65 rfl rfl
/-- an ArrayList of c elements, as its writer sees it: L its label -/
def LRo (E : ET) (ow : Nat → Nat × Nat) (L a c : Nat) (ad : Nat → Nat) (H : Heap) : Prop := ∃ (mo : Int32) (arr n : Nat) (f : Nat → Option Nat), OB E 0 [.int mo, .ref arr, .int (nI c)] a H ∧ QB E n f arr H ∧ c ≤ n ∧ n ≤ 2 * c + 10 ∧ (∀ i, i < c → f i = some (ad i)) ∧ ow a = (L, 1) ∧ eB E ≤ a ∧ ((arr = eF E ∧ n = 0) ∨ (ow arr = (L, 2) ∧ eB E ≤ arr ∧ 2 ≤ n))
theorem LRo.LR {E : ET} {ow : Nat → Nat × Nat} {L a c : Nat} {ad : Nat → Nat} {H : Heap} (h : LRo E ow L a c ad H) (hc : c < 2 ^ 29) : LR E a c ad H := by
  obtain ⟨mo, arr, n, f, h1, h2, h3, h4, h5, -⟩ := h
  exact ⟨mo, arr, n, f, h1, h2, h3, by omega, h5⟩
/-- new cells get the label -/
def owx (ow : Nat → Nat × Nat) (H : Heap) (x : Nat × Nat) : Nat → Nat × Nat := fun q => if q < H.size then ow q else x
theorem owx_old {ow : Nat → Nat × Nat} {H : Heap} {x : Nat × Nat} {q : Nat} (h : q < H.size) : owx ow H x q = ow q := if_pos h
theorem owx_new {ow : Nat → Nat × Nat} {H : Heap} {x : Nat × Nat} {q : Nat} (h : H.size ≤ q) : owx ow H x q = x := if_neg (Nat.not_lt.mpr h)
theorem ga_get {n c : Nat} (hn : c = n) (h2 : 2 ≤ n) (hb : n ≤ 40000) : (nI n >>> ((1 : Int32) &&& 31)) = nI (n / 2) := by
  have k := pk_shrN (n := n) (by omega) ((1 : Int32) &&& 31) 1 (by decide)
  rw [Nat.pow_one] at k
  exact k
set_option maxRecDepth 100000 in
set_option maxHeartbeats 4000000 in
/-- ArraysSupport.newLength -/
theorem c_newLen (E : ET) (n : Nat) (H : Heap) (h2 : 2 ≤ n) (hb9 : n ≤ 40000) : PCon E yJ8_newLength_cabcc cJ8_newLength_cabcc 4 (some FieldType.int) 2 [.int (nI n), .int 1, .int (nI (n / 2))] H (some (.int (nI (n + n / 2)))) := by
  refine PCon.of (C := RJ8) rfl (by decide +kernel) (Nat.le_of_ble_eq_true rfl) ?_
  intro p e s m below meth co ls hx hb hr hlk hml hown hts hE hH hl
  have hl : lv_has ls 4 [(0, .int (nI n)), (1, .int 1), (2, .int (nI (n / 2)))] := hl
  refine lv_iload_n hx hb dJ8_newLength_cabcc_0 rfl (lv_at hl 0 rfl) ?_
  refine lv_iload_n hx hb dJ8_newLength_cabcc_1 rfl (lv_at hl 1 rfl) ?_
  refine lv_iload_n hx hb dJ8_newLength_cabcc_2 rfl (lv_at hl 2 rfl) ?_
  refine va_mmax hx hb (by rw [hml]; exact hl.1.symm) hown (hts _ qw2_31) (hts _ qw2_32) (hts _ qw1_14) (hts _ qw2_33) (Nat.le_of_ble_eq_true rfl) (by show _ ≤ 80; simp [Value.category]) (Nat.le_refl _) (Nat.le_refl _) dJ8_newLength_cabcc_3 ?_
  have em : (if (1 : Int32) < nI (n / 2) then nI (n / 2) else 1) = nI (n / 2) := by
    by_cases c : 1 < n / 2
    · rw [if_pos (show (1 : Int32) < nI (n / 2) from nI_lt (a := 1) c (by omega))]
    · rw [if_neg (show ¬ (1 : Int32) < nI (n / 2) from nI_nlt (b := n / 2) (a := 1) (by omega) (by decide))]; have : n / 2 = 1 := by omega
      rw [this]; rfl
  rw [em]
  refine lv_iadd hx hb dJ8_newLength_cabcc_6 ?_
  rw [nI_add n (n / 2)]
  refine lv_istore_n (lv' := [(3, .int (nI (n + n / 2))), (0, .int (nI n)), (1, .int 1), (2, .int (nI (n / 2)))]) hx hb dJ8_newLength_cabcc_7 rfl hl (by decide) rfl (fun ls hl => ?_)
  refine lv_iconst (v := 0) hx hb dJ8_newLength_cabcc_8 (by decide) ?_
  refine lv_iload_n hx hb dJ8_newLength_cabcc_9 rfl (lv_at hl 0 rfl) ?_
  refine lv_icmp_ge (tgt := 21) hx hb dJ8_newLength_cabcc_10 (by decide) (fun c => ?_) (fun c => ?_)
  · exact absurd c (show ¬ nI (n + n / 2) ≤ nI 0 from nI_ge (by omega) (by omega))
  refine lv_iload_n hx hb dJ8_newLength_cabcc_13 rfl (lv_at hl 0 rfl) ?_
  refine lv_ldc (v := 2147483639) hx hb hown (hts _ qw2_34) dJ8_newLength_cabcc_14 ?_
  refine lv_icmp_gt (tgt := 21) hx hb dJ8_newLength_cabcc_16 (by decide) (fun c => ?_) (fun c => ?_)
  · exact absurd c (show ¬ nI 2147483639 < nI (n + n / 2) from nI_nlt (by omega) (by decide))
  refine lv_iload_n hx hb dJ8_newLength_cabcc_19 rfl (lv_at hl 0 rfl) ?_
  exact pI hx hb hr hlk hH rfl dJ8_newLength_cabcc_20

set_option maxRecDepth 100000 in
set_option maxHeartbeats 4000000 in
/-- Arrays.copyOf of references, by the class -/
theorem c_copy3 (E : ET) (arr n n2 ci : Nat) (f : Nat → Option Nat) (C : String) (T : u_T) (N : Nat) (H : Heap) (hA : QA E n f arr H) (hg : eB E ≤ arr) (hn : n ≤ n2) (hn2 : n2 ≤ 90000) (hc : vwCl[ci]? = some (C, T, N)) (hca : (C, xO) ∈ casL) (hel : ∀ i, i < n → ∀ y, f i = some y → ∃ fs, OB E ci fs y H) : Con E yJ7_copyOf_6403c cJ7_copyOf_6403c 4 (some (FieldType.array (FieldType.object "java/lang/Object"))) 2 1 n2 [.ref arr, .int (nI n2), .ref (eM E)] H (o1 (some (.ref H.size)) (fun H' => QA E n2 (va_cpy f (fun _ => none) 0 0 n) H.size H' ∧ FR (fun _ => False) H H')) := by
  refine Con.of (C := RJ7) rfl (by decide +kernel) (Nat.le_of_ble_eq_true rfl) ?_
  intro p e s m below meth co ls hx hb hr hlk hml hown hts hin hE hH hS hl
  have hl : lv_has ls 4 [(0, .ref arr), (1, .int (nI n2)), (2, .ref (eM E))] := hl
  have hB : eB E ≤ s.heap.size := by rw [hH]; exact hE.2.1
  refine lv_aload_n hx hb dJ7_copyOf_6403c_0 rfl (lv_at hl 2 rfl) ?_
  refine va_ldcM hx hb hown (hts _ qw2_57) hE.2.2.2.2.2.2.2.2.2.2.2.1 dJ7_copyOf_6403c_1 ?_
  refine lv_acmp_ne (rx := some (eM E)) (ry := some (eM E)) (tgt := 13) hx hb dJ7_copyOf_6403c_3 (by decide) (fun c => absurd rfl c) (fun _ => ?_)
  refine lv_iload_n hx hb dJ7_copyOf_6403c_6 rfl (lv_at hl 1 rfl) ?_
  refine naQ hx hb hts hown hE hS qw2_59 rfl (by omega) (by omega) (by omega) dJ7_copyOf_6403c_7 (fun q H1 ea1 hN hz1 hq1 hE hS hg1 => ?_)
  have hA1 := pk3 hA hq1
  refine lv_goto (tgt := 24) hx hb dJ7_copyOf_6403c_10 (by decide) ?_
  refine lv_astore_n (lv' := [(3, .ref q), (0, .ref arr), (1, .int (nI n2)), (2, .ref (eM E))]) hx hb dJ7_copyOf_6403c_24 rfl hl (by decide) rfl (fun ls hl => ?_)
  refine lv_aload_n hx hb dJ7_copyOf_6403c_25 rfl (lv_at hl 1 rfl) ?_
  refine lv_iconst (v := 0) hx hb dJ7_copyOf_6403c_26 (by decide) ?_
  refine lv_aload_n hx hb dJ7_copyOf_6403c_27 rfl (lv_at hl 0 rfl) ?_
  refine lv_iconst (v := 0) hx hb dJ7_copyOf_6403c_28 (by decide) ?_
  refine lv_aload_n hx hb dJ7_copyOf_6403c_29 rfl (lv_at hl 1 rfl) ?_
  refine aLQ hx hb hE hA1 dJ7_copyOf_6403c_30 ?_
  refine lv_iload_n hx hb dJ7_copyOf_6403c_31 rfl (lv_at hl 2 rfl) ?_
  refine va_mmin hx hb (by rw [hml]; exact hl.1.symm) hown (hts _ qw2_60) (hts _ qw2_61) (hts _ qw1_14) (hts _ qw2_62) (Nat.le_of_ble_eq_true rfl) (by show _ ≤ 80; simp [Value.category]) (by show 0 + 1 ≤ 1; omega) (by show 0 + n2 ≤ n2; omega) dJ7_copyOf_6403c_32 ?_
  generalize hv : (if nI n2 < nI n then nI n2 else nI n) = v
  have hv : v = nI n := by rw [← hv, if_neg (nI_nlt hn (by omega))]
  subst hv
  have hP : va_P (eD E) vwCl [(arr, .inl (eA E 2, n, .inr (.inr (.inr (.inr f))))), (q, .inl (eA E 2, n2, .inr (.inr (.inr (.inr (fun _ => none))))))] H1 := hA1.app hN
  have hne : arr ≠ q := by have := plt hA; omega
  have hD : va_D (fun z : Nat => H.size ≤ z ∨ z = arr) [(arr, .inl (eA E 2, n, .inr (.inr (.inr (.inr f))))), (q, .inl (eA E 2, n2, .inr (.inr (.inr (.inr (fun _ => none))))))] := by
    refine ⟨fun i j x y hi hj he => ?_, fun k x hk => ?_⟩
    · match i, j, hi, hj with
      | 0, 0, _, _ => rfl
      | 1, 1, _, _ => rfl
      | 0, 1, hi, hj => cases hi; cases hj; exact absurd he hne
      | 1, 0, hi, hj => cases hi; cases hj; exact absurd he.symm hne
      | i + 2, _, hi, _ => simp at hi
      | _, j + 2, _, hj => simp at hj
    · match k, hk with
      | 0, hk => cases hk; exact Or.inr rfl
      | 1, hk => cases hk; exact Or.inl (by omega)
      | k + 2, hk => simp at hk
  have hSq : va_S (fun z : Nat => H.size ≤ z ∨ z = arr) s.heap H1 [] := ⟨by rw [hH]; omega, fun z hz _ => by rw [hH] at hz ⊢; exact hq1 z hz, fun z hz => by cases hz⟩
  refine va_copyq (C := C) (E0 := xO) (E1 := xO) hx hb (by rw [hml]; exact hl.1.symm) hown (hts _ qw2_63) (hts _ qnAC) (hts _ qw2_64) (hts _ qw1_19) hE.K hP hD hSq 0 1 2 2 rfl rfl rfl rfl (show ¬ (0 : Int32) < 0 by decide) (show ¬ (0 : Int32) < 0 by decide) (nI_pos (by omega)) (by rw [nI_clamp (by omega), sb_cl0]; omega) (by rw [nI_clamp (by omega), sb_cl0]; omega) (fun i hi y hy => ?_) (fun comp c0 f1 f2 => ?_) (Nat.le_of_ble_eq_true rfl) (by show _ ≤ 80; simp only [nativeFrameWords]; decide) dJ7_copyOf_6403c_35 (fun H2 L2 hP2 hD2 hS2 => ?_)
  · rw [nI_clamp (by omega)] at hi
    rw [sb_cl0, Nat.zero_add] at hy
    obtain ⟨fs, hO⟩ := hel i hi y hy
    exact recv9 hE (pk3 hO hq1) hc
  · have hcaN : va_Nw (.castable C xO) s := hE.2.2.2.2.2.2.2.2.2.1 (C, xO) hca
    obtain ⟨k0, t1, g1, g2, g3⟩ := Cond.castable_spec (va_Nw.use (A := #[]) rfl hcaN)
    cases g1.symm.trans f2
    cases g2.symm.trans f1
    exact g3
  rw [nI_clamp (show n < 2 ^ 31 by omega), sb_cl0] at hP2
  have hF : FR (fun _ => False) H H2 := by
    refine ⟨Nat.le_trans (Nat.le_of_eq (by rw [hH])) hS2.1, fun z hz _ => ?_⟩
    by_cases hza : z = arr
    · rw [hza]; exact (hP2 0 _ rfl).trans (hA 0 _ rfl).symm
    · have := hS2.2.1 z (by rw [hH]; exact hz) (fun h => h.elim (fun h => by omega) hza)
      rw [hH] at this; exact this
  have hS : va_S (fr E) s.heap H2 L2 := ⟨hS2.1, fun z hz _ => by rw [hH] at hz ⊢; exact hF.2 z hz (fun h => h), fun z hz => (hS2.2.2 z hz).elim (fun h => Nat.le_trans hB (by rw [hH]; exact h)) (fun h => by rw [h]; exact hg)⟩
  refine lv_aload_n hx hb dJ7_copyOf_6403c_38 rfl (lv_at hl 0 rfl) ?_
  exact cR hx hb hr (Or.inr ⟨_, rfl⟩) (Or.inr ⟨_, rfl⟩) hlk hB hS (by omega) (by omega) (⟨by rw [ea1], by rw [← ea1]; exact one9 (hP2 1 _ rfl), hF⟩) dJ7_copyOf_6403c_39

set_option maxRecDepth 100000 in
set_option maxHeartbeats 4000000 in
/-- Arrays.copyOf of references -/
theorem c_copy2 (E : ET) (arr n n2 ci : Nat) (f : Nat → Option Nat) (C : String) (T : u_T) (N : Nat) (H : Heap) (hA : QA E n f arr H) (hg : eB E ≤ arr) (hn : n ≤ n2) (hn2 : n2 ≤ 90000) (hc : vwCl[ci]? = some (C, T, N)) (hca : (C, xO) ∈ casL) (hel : ∀ i, i < n → ∀ y, f i = some y → ∃ fs, OB E ci fs y H) : Con E yJ7_copyOf_1904c cJ7_copyOf_1904c 2 (some (FieldType.array (FieldType.object "java/lang/Object"))) 3 1 n2 [.ref arr, .int (nI n2)] H (o1 (some (.ref H.size)) (fun H' => QA E n2 (va_cpy f (fun _ => none) 0 0 n) H.size H' ∧ FR (fun _ => False) H H')) := by
  refine Con.of (C := RJ7) rfl (by decide +kernel) (Nat.le_of_ble_eq_true rfl) ?_
  intro p e s m below meth co ls hx hb hr hlk hml hown hts hin hE hH hS hl
  have hl : lv_has ls 2 [(0, .ref arr), (1, .int (nI n2))] := hl
  have hB : eB E ≤ s.heap.size := by rw [hH]; exact hE.2.1
  refine lv_aload_n hx hb dJ7_copyOf_1904c_0 rfl (lv_at hl 0 rfl) ?_
  refine lv_iload_n hx hb dJ7_copyOf_1904c_1 rfl (lv_at hl 1 rfl) ?_
  refine lv_aload_n hx hb dJ7_copyOf_1904c_2 rfl (lv_at hl 0 rfl) ?_
  have hmi := hE.2.2.2.2.2.2.2.2.2.2.2.1
  refine va_getC (C := "[Ljava/lang/Object;") hx hb (by rw [hml]; exact hl.1.symm) hown (hts _ qw2_41) (va_Dc.use hE.2.2.2.2.2.2.2.2.2.2.2.2.1) (hts _ qw3_101) (hts _ qw2_42) (hts _ qnGC) hmi ⟨_, hA 0 _ rfl, rfl, va_nmO (hE.K.2 2 _ rfl).2 rfl⟩ (Nat.le_of_ble_eq_true rfl) (by show _ ≤ 120; simp [Value.category]) dJ7_copyOf_1904c_3 ?_
  refine gS hx hb hml hts hown hB hE hS kwJ7_300 (c_copy3 E arr n n2 ci f C T N H hA hg hn hn2 hc hca hel) (Nat.le_of_ble_eq_true rfl) rfl hl.1 rfl (Nat.le_of_ble_eq_true rfl) (by omega) (by omega) dJ7_copyOf_1904c_6 (fun H1 L1 hG hz1 hE hS => ?_)
  exact cR hx hb hr (Or.inr ⟨_, rfl⟩) (Or.inr ⟨_, rfl⟩) hlk hB hS (by omega) (by omega) (⟨rfl, hG⟩) dJ7_copyOf_1904c_9
end
section
theorem add_get {f : Nat → Option Nat} {ad : Nat → Nat} {c w : Nat} (hf : ∀ i, i < c → f i = some (ad i)) (i : Nat) (hi : i < c + 1) : va_up f c (some w) i = some (va_up ad c w i) := by
  by_cases e : i = c
  · subst e; simp [va_up]
  · simp only [va_up, if_neg e]; exact hf i (by omega)
theorem owx_size {ow : Nat → Nat × Nat} {H H1 : Heap} {x : Nat × Nat} (h : H1.size = H.size) : owx ow H1 x = owx ow H x := by
  unfold owx
  rw [h]
set_option maxRecDepth 100000 in
set_option maxHeartbeats 4000000 in
/-- ArrayList.grow(int) of the empty array -/
theorem c_growA (E : ET) (a mo9 : Nat) (mo : Int32) (H : Heap) (hO : OB E 0 [.int mo, .ref (eF E), .int (nI 0)] a H) (ha : eB E ≤ a) : Con E yJx4a65c_grow_92f84 cJx4a65c_grow_92f84 4 (some (FieldType.array (FieldType.object "java/lang/Object"))) 4 1 10 [.ref a, .int (nI 1)] H (o1 (some (.ref H.size)) (fun H' => OB E 0 [.int mo, .ref H.size, .int (nI 0)] a H' ∧ QA E 10 (fun _ => none) H.size H' ∧ FR (fun q => q = a) H H')) := by
  refine Con.of (C := RJx4a65c) rfl (by decide +kernel) (Nat.le_of_ble_eq_true rfl) ?_
  intro p e s m below meth co ls hx hb hr hlk hml hown hts hin hE hH hS hl
  have hl : lv_has ls 4 [(0, .ref a), (1, .int (nI 1))] := hl
  have hB : eB E ≤ s.heap.size := by rw [hH]; exact hE.2.1
  have hA : QB E 0 (fun _ => none) (eF E) H := Or.inr ⟨rfl, hE.2.2.2.1⟩
  have hal := plt hO
  refine lv_aload_n hx hb dJx4a65c_grow_92f84_0 rfl (lv_at hl 0 rfl) ?_
  refine gf hx hb hts hown hE lkJx4a65c_9 hO rfl dJx4a65c_grow_92f84_1 ?_
  refine aLB hx hb hE hA dJx4a65c_grow_92f84_4 ?_
  refine lv_istore_n (lv' := [(2, .int (nI 0)), (0, .ref a), (1, .int (nI 1))]) hx hb dJx4a65c_grow_92f84_5 rfl hl (by decide) rfl (fun ls hl => ?_)
  refine lv_iload_n hx hb dJx4a65c_grow_92f84_6 rfl (lv_at hl 0 rfl) ?_
  refine lv_if_gt (tgt := 20) hx hb dJx4a65c_grow_92f84_7 (by decide) (fun c1 => ?_) (fun c1 => ?_)
  · exact absurd c1 (by decide)
  refine lv_aload_n hx hb dJx4a65c_grow_92f84_10 rfl (lv_at hl 1 rfl) ?_
  refine gf hx hb hts hown hE lkJx4a65c_9 hO rfl dJx4a65c_grow_92f84_11 ?_
  refine va_gets hx hb (by rw [hH]; exact hE.2.2.2.2.1) hS hown (hts _ qw1_53) (fun _ h => h) dJx4a65c_grow_92f84_14 ?_
  refine lv_acmp_eq (rx := some (eF E)) (ry := some (eF E)) (tgt := 45) hx hb dJx4a65c_grow_92f84_17 (by decide) (fun _ => ?_) (fun c => absurd rfl c)
  refine lv_aload_n hx hb dJx4a65c_grow_92f84_45 rfl (lv_at hl 1 rfl) ?_
  refine lv_bipush (v := 10) hx hb dJx4a65c_grow_92f84_46 (by decide) ?_
  refine lv_iload_n hx hb dJx4a65c_grow_92f84_48 rfl (lv_at hl 2 rfl) ?_
  refine va_mmax hx hb (by rw [hml]; exact hl.1.symm) hown (hts _ qw2_66) (hts _ qw2_32) (hts _ qw1_14) (hts _ qw2_33) (Nat.le_of_ble_eq_true rfl) (by show _ ≤ 160; simp [Value.category]) (Nat.zero_le _) (Nat.zero_le _) dJx4a65c_grow_92f84_49 ?_
  rw [show (if (10 : Int32) < nI 1 then nI 1 else 10) = 10 by decide]
  refine naQ (N' := 10) hx hb hts hown hE hS qw2_67 rfl (by omega) (by omega) (by omega) dJx4a65c_grow_92f84_52 (fun q H1 ea1 hN hz1 hq1 hE hS hg1 => ?_)
  have hF : FR (fun q => q = a) H H1 := FR.rf.new (by omega) hq1
  have hO := pk3 hO hq1
  refine lv_dup_x1 hx hb dJx4a65c_grow_92f84_55 rfl rfl ?_
  refine pf hx hb hts hown hE hS pkJx4a65c_9 rfl hO ha rfl rfl (Nat.le_of_ble_eq_true rfl) dJx4a65c_grow_92f84_56 (fun H2 L2 hO2 hz2 hq2 hE hS => ?_)
  have hO : OB E 0 [.int mo, .ref q, .int (nI 0)] a H2 := hO2
  have hN := pk2 hN hq2 (by omega)
  have hF := hF.put hz2 hq2 (fun _ => rfl)
  exact cR hx hb hr (Or.inr ⟨_, rfl⟩) (Or.inr ⟨_, rfl⟩) hlk hB hS (by omega) (by omega) (⟨by first | rfl | rw [ea1], by first | exact hO | (rw [← ea1]; exact hO), by first | exact hN | (rw [← ea1]; exact hN), hF⟩) dJx4a65c_grow_92f84_59

set_option maxRecDepth 100000 in
set_option maxHeartbeats 4000000 in
/-- ArrayList.grow(int) of a full array -/
theorem c_growB (E : ET) (a arr n ci : Nat) (mo : Int32) (f : Nat → Option Nat) (C : String) (T : u_T) (N : Nat) (H : Heap) (hO : OB E 0 [.int mo, .ref arr, .int (nI n)] a H) (ha : eB E ≤ a) (hA : QA E n f arr H) (hg : eB E ≤ arr) (h2 : 2 ≤ n) (hn4 : n ≤ 40000) (hc : vwCl[ci]? = some (C, T, N)) (hca : (C, xO) ∈ casL) (hel : ∀ i, i < n → ∀ y, f i = some y → ∃ fs, OB E ci fs y H) : Con E yJx4a65c_grow_92f84 cJx4a65c_grow_92f84 4 (some (FieldType.array (FieldType.object "java/lang/Object"))) 4 1 (n + n / 2) [.ref a, .int (nI (n + 1))] H (o1 (some (.ref H.size)) (fun H' => OB E 0 [.int mo, .ref H.size, .int (nI n)] a H' ∧ QA E (n + n / 2) (va_cpy f (fun _ => none) 0 0 n) H.size H' ∧ FR (fun q => q = a) H H')) := by
  refine Con.of (C := RJx4a65c) rfl (by decide +kernel) (Nat.le_of_ble_eq_true rfl) ?_
  intro p e s m below meth co ls hx hb hr hlk hml hown hts hin hE hH hS hl
  have hl : lv_has ls 4 [(0, .ref a), (1, .int (nI (n + 1)))] := hl
  have hB : eB E ≤ s.heap.size := by rw [hH]; exact hE.2.1
  have hal := plt hO
  refine lv_aload_n hx hb dJx4a65c_grow_92f84_0 rfl (lv_at hl 0 rfl) ?_
  refine gf hx hb hts hown hE lkJx4a65c_9 hO rfl dJx4a65c_grow_92f84_1 ?_
  refine aLQ hx hb hE hA dJx4a65c_grow_92f84_4 ?_
  refine lv_istore_n (lv' := [(2, .int (nI n)), (0, .ref a), (1, .int (nI (n + 1)))]) hx hb dJx4a65c_grow_92f84_5 rfl hl (by decide) rfl (fun ls hl => ?_)
  refine lv_iload_n hx hb dJx4a65c_grow_92f84_6 rfl (lv_at hl 0 rfl) ?_
  refine lv_if_gt (tgt := 20) hx hb dJx4a65c_grow_92f84_7 (by decide) (fun c1 => ?_) (fun c1 => ?_)
  rotate_left
  · exact absurd (show nI 0 < nI n from nI_lt (by omega) (by omega)) c1
  refine lv_iload_n hx hb dJx4a65c_grow_92f84_20 rfl (lv_at hl 0 rfl) ?_
  refine lv_iload_n hx hb dJx4a65c_grow_92f84_21 rfl (lv_at hl 2 rfl) ?_
  refine lv_iload_n hx hb dJx4a65c_grow_92f84_22 rfl (lv_at hl 0 rfl) ?_
  refine lv_isub hx hb dJx4a65c_grow_92f84_23 ?_
  refine lv_iload_n hx hb dJx4a65c_grow_92f84_24 rfl (lv_at hl 0 rfl) ?_
  refine lv_iconst (v := 1) hx hb dJx4a65c_grow_92f84_25 (by decide) ?_
  rw [show nI (n + 1) - nI n = (1 : Int32) from (pk_sub (a := n + 1) (b := n) (by omega)).trans (by rw [Nat.add_sub_cancel_left]; rfl)]
  refine lv_ishr hx hb dJx4a65c_grow_92f84_26 ?_
  rw [ga_get rfl h2 hn4]
  refine pS hx hb hml hts hown hE kwJx4a65c_73 (c_newLen E n H h2 hn4) (Nat.le_of_ble_eq_true rfl) rfl hl.1 rfl (Nat.le_of_ble_eq_true rfl) (Nat.zero_le _) (Nat.zero_le _) dJx4a65c_grow_92f84_27 ?_
  refine lv_istore_n (lv' := [(3, .int (nI (n + n / 2))), (2, .int (nI n)), (0, .ref a), (1, .int (nI (n + 1)))]) hx hb dJx4a65c_grow_92f84_30 rfl hl (by decide) rfl (fun ls hl => ?_)
  refine lv_aload_n hx hb dJx4a65c_grow_92f84_31 rfl (lv_at hl 2 rfl) ?_
  refine lv_aload_n hx hb dJx4a65c_grow_92f84_32 rfl (lv_at hl 2 rfl) ?_
  refine gf hx hb hts hown hE lkJx4a65c_9 hO rfl dJx4a65c_grow_92f84_33 ?_
  refine lv_iload_n hx hb dJx4a65c_grow_92f84_36 rfl (lv_at hl 0 rfl) ?_
  refine gS hx hb hml hts hown hB hE hS kwJx4a65c_66 (c_copy2 E arr n (n + n / 2) ci f C T N H hA hg (by omega) (by omega) hc hca hel) (Nat.le_of_ble_eq_true rfl) rfl hl.1 rfl (Nat.le_of_ble_eq_true rfl) (by omega) (by omega) dJx4a65c_grow_92f84_37 (fun H1 L1 hG hz1 hE hS => ?_)
  obtain ⟨q, ea1⟩ : ∃ q, q = H.size := ⟨_, rfl⟩
  rw [← ea1] at hG ⊢
  obtain ⟨hN, hG2⟩ := hG
  have hF : FR (fun q => q = a) H H1 := FR.rf.tr hG2 (fun _ _ h => h.elim)
  have hO := hG2.at hO (fun h => h)
  refine lv_dup_x1 hx hb dJx4a65c_grow_92f84_40 rfl rfl ?_
  refine pf hx hb hts hown hE hS pkJx4a65c_9 rfl hO ha rfl rfl (Nat.le_of_ble_eq_true rfl) dJx4a65c_grow_92f84_41 (fun H2 L2 hO2 hz2 hq2 hE hS => ?_)
  have hO : OB E 0 [.int mo, .ref q, .int (nI n)] a H2 := hO2
  have hN := pk2 hN hq2 (by omega)
  have hF := hF.put hz2 hq2 (fun _ => rfl)
  exact cR hx hb hr (Or.inr ⟨_, rfl⟩) (Or.inr ⟨_, rfl⟩) hlk hB hS (by omega) (by omega) (⟨by first | rfl | rw [ea1], by first | exact hO | (rw [← ea1]; exact hO), by first | exact hN | (rw [← ea1]; exact hN), hF⟩) dJx4a65c_grow_92f84_44

set_option maxRecDepth 100000 in
set_option maxHeartbeats 4000000 in
/-- ArrayList.grow() of the empty array -/
theorem c_grow0A (E : ET) (a : Nat) (mo : Int32) (H : Heap) (hO : OB E 0 [.int mo, .ref (eF E), .int (nI 0)] a H) (ha : eB E ≤ a) : Con E yJx4a65c_grow_d5877 cJx4a65c_grow_d5877 1 (some (FieldType.array (FieldType.object "java/lang/Object"))) 5 1 10 [.ref a] H (o1 (some (.ref H.size)) (fun H' => OB E 0 [.int mo, .ref H.size, .int (nI 0)] a H' ∧ QA E 10 (fun _ => none) H.size H' ∧ FR (fun q => q = a) H H')) := by
  refine Con.of (C := RJx4a65c) rfl (by decide +kernel) (Nat.le_of_ble_eq_true rfl) ?_
  intro p e s m below meth co ls hx hb hr hlk hml hown hts hin hE hH hS hl
  have hl : lv_has ls 1 [(0, .ref a)] := hl
  have hB : eB E ≤ s.heap.size := by rw [hH]; exact hE.2.1
  refine lv_aload_n hx hb dJx4a65c_grow_d5877_0 rfl (lv_at hl 0 rfl) ?_
  refine lv_aload_n hx hb dJx4a65c_grow_d5877_1 rfl (lv_at hl 0 rfl) ?_
  refine gf hx hb hts hown hE lkJx4a65c_48 hO rfl dJx4a65c_grow_d5877_2 ?_
  refine lv_iconst (v := 1) hx hb dJx4a65c_grow_d5877_5 (by decide) ?_
  refine lv_iadd hx hb dJx4a65c_grow_d5877_6 ?_
  rw [show nI 0 + 1 = nI (0 + 1) from nI_1 0]
  refine gV hx hb hml hts hown hB hE hS kwJx4a65c_69 (c_growA E a 0 mo H hO ha) hO rfl (Nat.le_of_ble_eq_true rfl) rfl hl.1 rfl (Nat.le_of_ble_eq_true rfl) (by omega) (by omega) dJx4a65c_grow_d5877_7 (fun H1 L1 hG hz1 hE hS => ?_)
  exact cR hx hb hr (Or.inr ⟨_, rfl⟩) (Or.inr ⟨_, rfl⟩) hlk hB hS (by omega) (by omega) (⟨rfl, hG⟩) dJx4a65c_grow_d5877_10

set_option maxRecDepth 100000 in
set_option maxHeartbeats 4000000 in
/-- ArrayList.grow() of a full array -/
theorem c_grow0B (E : ET) (a arr n ci : Nat) (mo : Int32) (f : Nat → Option Nat) (C : String) (T : u_T) (N : Nat) (H : Heap) (hO : OB E 0 [.int mo, .ref arr, .int (nI n)] a H) (ha : eB E ≤ a) (hA : QA E n f arr H) (hg : eB E ≤ arr) (h2 : 2 ≤ n) (hn4 : n ≤ 40000) (hc : vwCl[ci]? = some (C, T, N)) (hca : (C, xO) ∈ casL) (hel : ∀ i, i < n → ∀ y, f i = some y → ∃ fs, OB E ci fs y H) : Con E yJx4a65c_grow_d5877 cJx4a65c_grow_d5877 1 (some (FieldType.array (FieldType.object "java/lang/Object"))) 5 1 (n + n / 2) [.ref a] H (o1 (some (.ref H.size)) (fun H' => OB E 0 [.int mo, .ref H.size, .int (nI n)] a H' ∧ QA E (n + n / 2) (va_cpy f (fun _ => none) 0 0 n) H.size H' ∧ FR (fun q => q = a) H H')) := by
  refine Con.of (C := RJx4a65c) rfl (by decide +kernel) (Nat.le_of_ble_eq_true rfl) ?_
  intro p e s m below meth co ls hx hb hr hlk hml hown hts hin hE hH hS hl
  have hl : lv_has ls 1 [(0, .ref a)] := hl
  have hB : eB E ≤ s.heap.size := by rw [hH]; exact hE.2.1
  refine lv_aload_n hx hb dJx4a65c_grow_d5877_0 rfl (lv_at hl 0 rfl) ?_
  refine lv_aload_n hx hb dJx4a65c_grow_d5877_1 rfl (lv_at hl 0 rfl) ?_
  refine gf hx hb hts hown hE lkJx4a65c_48 hO rfl dJx4a65c_grow_d5877_2 ?_
  refine lv_iconst (v := 1) hx hb dJx4a65c_grow_d5877_5 (by decide) ?_
  refine lv_iadd hx hb dJx4a65c_grow_d5877_6 ?_
  rw [show nI n + 1 = nI (n + 1) from nI_1 n]
  refine gV hx hb hml hts hown hB hE hS kwJx4a65c_69 (c_growB E a arr n ci mo f C T N H hO ha hA hg h2 hn4 hc hca hel) hO rfl (Nat.le_of_ble_eq_true rfl) rfl hl.1 rfl (Nat.le_of_ble_eq_true rfl) (by omega) (by omega) dJx4a65c_grow_d5877_7 (fun H1 L1 hG hz1 hE hS => ?_)
  exact cR hx hb hr (Or.inr ⟨_, rfl⟩) (Or.inr ⟨_, rfl⟩) hlk hB hS (by omega) (by omega) (⟨rfl, hG⟩) dJx4a65c_grow_d5877_10

set_option maxRecDepth 100000 in
set_option maxHeartbeats 4000000 in
/-- ArrayList.add(E, Object[], int) -/
theorem c_add3 (E : ET) (ow : Nat → Nat × Nat) (L a w c arr n : Nat) (mo : Int32) (f : Nat → Option Nat) (ad : Nat → Nat) (ci : Nat) (fw : List Value) (C : String) (T : u_T) (N : Nat) (H : Heap) (hO : OB E 0 [.int mo, .ref arr, .int (nI c)] a H) (hA : QB E n f arr H) (hcn : c ≤ n) (hn2 : n ≤ 2 * c + 10) (hf : ∀ i, i < c → f i = some (ad i)) (hoa : ow a = (L, 1)) (hga : eB E ≤ a) (har : (arr = eF E ∧ n = 0) ∨ (ow arr = (L, 2) ∧ eB E ≤ arr ∧ 2 ≤ n)) (hcb : c ≤ 10000) (hw : OB E ci fw w H) (hc : vwCl[ci]? = some (C, T, N)) (hca : (C, xO) ∈ casL) (hel : ∀ i, i < c → ∃ fs, OB E ci fs (ad i) H) (hwo : (ow w).2 ≠ 1 ∧ (ow w).2 ≠ 2) : Con E yJx4a65c_add_72be8 cJx4a65c_add_72be8 4 (none : Option FieldType) 6 1 (2 * c + 10) [.ref a, .ref w, .ref arr, .int (nI c)] H (o1 none (fun H' => LRo E (owx ow H (L, 2)) L a (c + 1) (va_up ad c w) H' ∧ FR (fun q => ow q = (L, 1) ∨ ow q = (L, 2)) H H')) := by
  refine Con.of (C := RJx4a65c) rfl (by decide +kernel) (Nat.le_of_ble_eq_true rfl) ?_
  intro p e s m below meth co ls hx hb hr hlk hml hown hts hin hE hH hS hl
  have hl : lv_has ls 4 [(0, .ref a), (1, .ref w), (2, .ref arr), (3, .int (nI c))] := hl
  have hA0 := hA
  have hB : eB E ≤ s.heap.size := by rw [hH]; exact hE.2.1
  have hwa : w ≠ a := fun e => hwo.1 (by rw [e, hoa])
  have hal := plt hO
  have hwl := plt hw
  refine lv_iload_n hx hb dJx4a65c_add_72be8_0 rfl (lv_at hl 3 rfl) ?_
  refine lv_aload_n hx hb dJx4a65c_add_72be8_1 rfl (lv_at hl 2 rfl) ?_
  refine aLB hx hb hE hA dJx4a65c_add_72be8_2 ?_
  refine lv_icmp_ne (tgt := 11) hx hb dJx4a65c_add_72be8_3 (by decide) (fun c1 => ?_) (fun c1 => ?_)
  · have hlt : c < n := by
      rcases Nat.lt_or_ge c n with q | q
      · exact q
      · exact absurd (by rw [Nat.le_antisymm hcn q]) c1
    have har2 : ow arr = (L, 2) ∧ eB E ≤ arr ∧ 2 ≤ n := har.resolve_left (fun q => by omega)
    have hgr := har2.2.1
    have hroom := hlt
    have hna : a ≠ arr := fun e => by rw [e, har2.1] at hoa; cases hoa
    have hnw : w ≠ arr := fun e => hwo.2 (by rw [e, har2.1])
    have hma : arr < H.size → ow arr = (L, 1) ∨ ow arr = (L, 2) := fun _ => Or.inr har2.1
    have hF : FR (fun q => ow q = (L, 1) ∨ ow q = (L, 2)) H H := FR.rf
    have hA := hA.qa (by omega)
    refine lv_aload_n hx hb dJx4a65c_add_72be8_11 rfl (lv_at hl 2 rfl) ?_
    refine lv_iload_n hx hb dJx4a65c_add_72be8_12 rfl (lv_at hl 3 rfl) ?_
    refine lv_aload_n hx hb dJx4a65c_add_72be8_13 rfl (lv_at hl 1 rfl) ?_
    refine asQ hx hb hE hS hA hgr  hw hc hca rfl hroom (by omega) dJx4a65c_add_72be8_14 (fun H1 L1 hO1 hz1 hq1 hE hS => ?_)
    have hA : QA E n (va_up (f) c (some w)) arr H1 := hO1
    have hO := pk2 hO hq1 hna
    have hw := pk2 hw hq1 hnw
    have hF := hF.put hz1 hq1 hma
    refine lv_aload_n hx hb dJx4a65c_add_72be8_15 rfl (lv_at hl 0 rfl) ?_
    refine lv_iload_n hx hb dJx4a65c_add_72be8_16 rfl (lv_at hl 3 rfl) ?_
    refine lv_iconst (v := 1) hx hb dJx4a65c_add_72be8_17 (by decide) ?_
    refine lv_iadd hx hb dJx4a65c_add_72be8_18 ?_
    rw [show nI c + 1 = nI (c + 1) from nI_1 c]
    refine pf hx hb hts hown hE hS pkJx4a65c_48 rfl hO hga rfl rfl (Nat.le_of_ble_eq_true rfl) dJx4a65c_add_72be8_19 (fun H2 L2 hO2 hz2 hq2 hE hS => ?_)
    have hO : OB E 0 [.int mo, .ref arr, .int (nI (c + 1))] a H2 := hO2
    have hA := pk2 hA hq2 (fun e => hna e.symm)
    have hw := pk2 hw hq2 hwa
    have hF := hF.put hz2 hq2 (fun _ => Or.inl hoa)
    have har9 := hA0.lt
    refine cU hx hb hr hlk hB hS (by omega) (by omega) ⟨rfl, ⟨mo, arr, n, _, hO, QB.of hA, hlt, by omega, fun i hi => add_get hf i hi, by rw [owx_old hal]; exact hoa, hga, Or.inr ⟨by rw [owx_old har9]; exact har2.1, hgr, har2.2.2⟩⟩, hF⟩ dJx4a65c_add_72be8_22
  · have hcn2 : c = n := (nI_eq (by omega) (by omega)).mp c1
    subst hcn2
    rcases har with ⟨ea, e0⟩ | har2
    · subst ea e0
      refine lv_aload_n hx hb dJx4a65c_add_72be8_6 rfl (lv_at hl 0 rfl) ?_
      refine gV hx hb hml hts hown hB hE hS kwJx4a65c_129 (c_grow0A E a mo H hO hga) hO rfl (Nat.le_of_ble_eq_true rfl) rfl hl.1 rfl (Nat.le_of_ble_eq_true rfl) (by omega) (by omega) dJx4a65c_add_72be8_7 (fun H1 L1 hG hz1 hE hS => ?_)
      obtain ⟨q, ea1⟩ : ∃ q, q = H.size := ⟨_, rfl⟩
      rw [← ea1] at hG ⊢
      obtain ⟨hO, hA, hG2⟩ := hG
      have hF : FR (fun q => ow q = (L, 1) ∨ ow q = (L, 2)) H H1 := FR.rf.tr hG2 (fun z _ h => by rw [h]; exact Or.inl hoa)
      have hw := hG2.at hw hwa
      have hgr : eB E ≤ q := by have := hH ▸ hB; omega
      have hna : a ≠ q := by omega
      have hnw : w ≠ q := by omega
      have hma : q < H.size → ow q = (L, 1) ∨ ow q = (L, 2) := fun h => by omega
      have hroom : 0 < 10 := by decide
      refine lv_astore_n (lv' := [(2, .ref q), (0, .ref a), (1, .ref w), (3, .int (nI 0))]) hx hb dJx4a65c_add_72be8_10 rfl hl (by decide) rfl (fun ls hl => ?_)
      refine lv_aload_n hx hb dJx4a65c_add_72be8_11 rfl (lv_at hl 0 rfl) ?_
      refine lv_iload_n hx hb dJx4a65c_add_72be8_12 rfl (lv_at hl 3 rfl) ?_
      refine lv_aload_n hx hb dJx4a65c_add_72be8_13 rfl (lv_at hl 2 rfl) ?_
      refine asQ hx hb hE hS hA hgr  hw hc hca rfl hroom (by omega) dJx4a65c_add_72be8_14 (fun H2 L2 hO2 hz2 hq2 hE hS => ?_)
      have hA : QA E 10 (va_up (fun _ => none) 0 (some w)) q H2 := hO2
      have hO := pk2 hO hq2 hna
      have hw := pk2 hw hq2 hnw
      have hF := hF.put hz2 hq2 hma
      refine lv_aload_n hx hb dJx4a65c_add_72be8_15 rfl (lv_at hl 1 rfl) ?_
      refine lv_iload_n hx hb dJx4a65c_add_72be8_16 rfl (lv_at hl 3 rfl) ?_
      refine lv_iconst (v := 1) hx hb dJx4a65c_add_72be8_17 (by decide) ?_
      refine lv_iadd hx hb dJx4a65c_add_72be8_18 ?_
      rw [show nI 0 + 1 = nI (0 + 1) from nI_1 0]
      refine pf hx hb hts hown hE hS pkJx4a65c_48 rfl hO hga rfl rfl (Nat.le_of_ble_eq_true rfl) dJx4a65c_add_72be8_19 (fun H3 L3 hO3 hz3 hq3 hE hS => ?_)
      have hO : OB E 0 [.int mo, .ref q, .int (nI (0 + 1))] a H3 := hO3
      have hA := pk2 hA hq3 (fun e => hna e.symm)
      have hw := pk2 hw hq3 hwa
      have hF := hF.put hz3 hq3 (fun _ => Or.inl hoa)
      exact cU hx hb hr hlk hB hS (by omega) (by omega) ⟨rfl, ⟨mo, q, 10, _, hO, QB.of hA, by omega, by omega, fun i hi => add_get (c := 0) (fun i hi => absurd hi (Nat.not_lt_zero i)) i hi, by rw [owx_old hal]; exact hoa, hga, Or.inr ⟨owx_new (by omega), hgr, by decide⟩⟩, hF⟩ dJx4a65c_add_72be8_22
    · refine lv_aload_n hx hb dJx4a65c_add_72be8_6 rfl (lv_at hl 0 rfl) ?_
      refine gV hx hb hml hts hown hB hE hS kwJx4a65c_129 (c_grow0B E a arr c ci mo f C T N H hO hga (hA.qa (by have := har2.2.2; omega)) har2.2.1 har2.2.2 (by omega) hc hca (fun i hi y hy => by rw [hf i hi] at hy; cases hy; exact hel i hi)) hO rfl (Nat.le_of_ble_eq_true rfl) rfl hl.1 rfl (Nat.le_of_ble_eq_true rfl) (by omega) (by omega) dJx4a65c_add_72be8_7 (fun H1 L1 hG hz1 hE hS => ?_)
      obtain ⟨q, ea1⟩ : ∃ q, q = H.size := ⟨_, rfl⟩
      rw [← ea1] at hG ⊢
      obtain ⟨hO, hA, hG2⟩ := hG
      have hF : FR (fun q => ow q = (L, 1) ∨ ow q = (L, 2)) H H1 := FR.rf.tr hG2 (fun z _ h => by rw [h]; exact Or.inl hoa)
      have hw := hG2.at hw hwa
      have hgr : eB E ≤ q := by have := hH ▸ hB; omega
      have hna : a ≠ q := by omega
      have hnw : w ≠ q := by omega
      have hma : q < H.size → ow q = (L, 1) ∨ ow q = (L, 2) := fun h => by omega
      have hroom : c < c + c / 2 := by have := har2.2.2; omega
      refine lv_astore_n (lv' := [(2, .ref q), (0, .ref a), (1, .ref w), (3, .int (nI c))]) hx hb dJx4a65c_add_72be8_10 rfl hl (by decide) rfl (fun ls hl => ?_)
      refine lv_aload_n hx hb dJx4a65c_add_72be8_11 rfl (lv_at hl 0 rfl) ?_
      refine lv_iload_n hx hb dJx4a65c_add_72be8_12 rfl (lv_at hl 3 rfl) ?_
      refine lv_aload_n hx hb dJx4a65c_add_72be8_13 rfl (lv_at hl 2 rfl) ?_
      refine asQ hx hb hE hS hA hgr  hw hc hca rfl hroom (by omega) dJx4a65c_add_72be8_14 (fun H2 L2 hO2 hz2 hq2 hE hS => ?_)
      have hA : QA E (c + c / 2) (va_up (va_cpy f (fun _ => none) 0 0 c) c (some w)) q H2 := hO2
      have hO := pk2 hO hq2 hna
      have hw := pk2 hw hq2 hnw
      have hF := hF.put hz2 hq2 hma
      refine lv_aload_n hx hb dJx4a65c_add_72be8_15 rfl (lv_at hl 1 rfl) ?_
      refine lv_iload_n hx hb dJx4a65c_add_72be8_16 rfl (lv_at hl 3 rfl) ?_
      refine lv_iconst (v := 1) hx hb dJx4a65c_add_72be8_17 (by decide) ?_
      refine lv_iadd hx hb dJx4a65c_add_72be8_18 ?_
      rw [show nI c + 1 = nI (c + 1) from nI_1 c]
      refine pf hx hb hts hown hE hS pkJx4a65c_48 rfl hO hga rfl rfl (Nat.le_of_ble_eq_true rfl) dJx4a65c_add_72be8_19 (fun H3 L3 hO3 hz3 hq3 hE hS => ?_)
      have hO : OB E 0 [.int mo, .ref q, .int (nI (c + 1))] a H3 := hO3
      have hA := pk2 hA hq3 (fun e => hna e.symm)
      have hw := pk2 hw hq3 hwa
      have hF := hF.put hz3 hq3 (fun _ => Or.inl hoa)
      exact cU hx hb hr hlk hB hS (by omega) (by omega) ⟨rfl, ⟨mo, q, c + c / 2, _, hO, QB.of hA, by omega, by omega, fun i hi => add_get (fun i hi => (pk_cpy_in (Nat.zero_le _) (by omega)).trans (by rw [Nat.zero_add, Nat.sub_zero]; exact hf i hi)) i hi, by rw [owx_old hal]; exact hoa, hga, Or.inr ⟨owx_new (by omega), hgr, by have := har2.2.2; omega⟩⟩, hF⟩ dJx4a65c_add_72be8_22

set_option maxRecDepth 100000 in
set_option maxHeartbeats 4000000 in
/-- ArrayList.add -/
theorem c_add (E : ET) (ow : Nat → Nat × Nat) (L a w c : Nat) (ad : Nat → Nat) (ci : Nat) (fw : List Value) (C : String) (T : u_T) (N : Nat) (H : Heap) (h : LRo E ow L a c ad H) (hcb : c ≤ 10000) (hw : OB E ci fw w H) (hc : vwCl[ci]? = some (C, T, N)) (hca : (C, xO) ∈ casL) (hel : ∀ i, i < c → ∃ fs, OB E ci fs (ad i) H) (hwo : (ow w).2 ≠ 1 ∧ (ow w).2 ≠ 2) (hela : ∀ i, i < c → ad i ≠ a) : Con E yJx4a65c_add_9ea2d cJx4a65c_add_9ea2d 2 (some FieldType.boolean) 7 1 (2 * c + 10) [.ref a, .ref w] H (o1 (some (.int 1)) (fun H' => LRo E (owx ow H (L, 2)) L a (c + 1) (va_up ad c w) H' ∧ FR (fun q => ow q = (L, 1) ∨ ow q = (L, 2)) H H')) := by
  refine Con.of (C := RJx4a65c) rfl (by decide +kernel) (Nat.le_of_ble_eq_true rfl) ?_
  intro p e s m below meth co ls hx hb hr hlk hml hown hts hin hE hH hS hl
  have hl : lv_has ls 2 [(0, .ref a), (1, .ref w)] := hl
  have hB : eB E ≤ s.heap.size := by rw [hH]; exact hE.2.1
  obtain ⟨mo, arr, n, f, hO, hA, hcn, hn2, hf, hoa, hga, har⟩ := h
  have hwa : w ≠ a := fun e => hwo.1 (by rw [e, hoa])
  have hra : arr ≠ a := fun e => har.elim (fun q => by have := hE.2.2.1; omega) (fun q => by rw [e, hoa] at q; cases q.1)
  refine lv_aload_n hx hb dJx4a65c_add_9ea2d_0 rfl (lv_at hl 0 rfl) ?_
  refine lv_dup hx hb dJx4a65c_add_9ea2d_1 rfl ?_
  refine gf hx hb hts hown hE lkJx4a65c_63 hO rfl dJx4a65c_add_9ea2d_2 ?_
  refine lv_iconst (v := 1) hx hb dJx4a65c_add_9ea2d_5 (by decide) ?_
  refine lv_iadd hx hb dJx4a65c_add_9ea2d_6 ?_
  have hF : FR (fun q => ow q = (L, 1) ∨ ow q = (L, 2)) H H := FR.rf
  refine pf hx hb hts hown hE hS pkJx4a65c_63 rfl hO hga rfl rfl (Nat.le_of_ble_eq_true rfl) dJx4a65c_add_9ea2d_7 (fun H1 L1 hO1 hz1 hq1 hE hS => ?_)
  have hO : OB E 0 [.int (mo + 1), .ref arr, .int (nI c)] a H1 := hO1
  have hw := pk2 hw hq1 hwa
  have hF := hF.put hz1 hq1 (fun _ => Or.inl hoa)
  have hA := hA.pk (hq1 arr hra)
  refine lv_aload_n hx hb dJx4a65c_add_9ea2d_10 rfl (lv_at hl 0 rfl) ?_
  refine lv_aload_n hx hb dJx4a65c_add_9ea2d_11 rfl (lv_at hl 1 rfl) ?_
  refine lv_aload_n hx hb dJx4a65c_add_9ea2d_12 rfl (lv_at hl 0 rfl) ?_
  refine gf hx hb hts hown hE lkJx4a65c_9 hO rfl dJx4a65c_add_9ea2d_13 ?_
  refine lv_aload_n hx hb dJx4a65c_add_9ea2d_16 rfl (lv_at hl 0 rfl) ?_
  refine gf hx hb hts hown hE lkJx4a65c_48 hO rfl dJx4a65c_add_9ea2d_17 ?_
  refine gVU hx hb hml hts hown hB hE hS kwJx4a65c_131 (c_add3 E ow L a w c arr n _ f ad ci fw C T N H1 hO hA hcn hn2 hf hoa hga har hcb hw hc hca (fun i hi => ?_) hwo) hO rfl (Nat.le_of_ble_eq_true rfl) rfl hl.1 rfl (Nat.le_of_ble_eq_true rfl) (by omega) (by omega) dJx4a65c_add_9ea2d_20 (fun H2 L2 hG hz2 hE hS => ?_)
  · obtain ⟨fs, ho⟩ := hel i hi
    by_cases q : ad i = a
    · exact absurd q (hela i hi)
    · exact ⟨fs, pk2 ho hq1 q⟩
  obtain ⟨hG1, hG2⟩ := hG
  refine lv_iconst (v := 1) hx hb dJx4a65c_add_9ea2d_23 (by decide) ?_
  exact cZ hx hb hr hlk hB hS (by omega) (by omega) (Or.inr rfl) ⟨rfl, by rw [← owx_size hz1]; exact hG1, hF.tr hG2 (fun _ _ h => h)⟩ dJx4a65c_add_9ea2d_24
end
section
set_option maxRecDepth 100000 in
set_option maxHeartbeats 4000000 in
/-- AbstractCollection() -/
theorem c_aci (E : ET) (a : Nat) (H : Heap) : Con E yJxa1e45_init_da8c8 cJxa1e45_init_da8c8 1 (none : Option FieldType) 1 0 0 [.ref a] H (o1 none (fun H' => H' = H)) := by
  refine Con.of (C := RJxa1e45) rfl (by decide +kernel) (Nat.le_of_ble_eq_true rfl) ?_
  intro p e s m below meth co ls hx hb hr hlk hml hown hts hin hE hH hS hl
  have hl : lv_has ls 1 [(0, .ref a)] := hl
  have hB : eB E ≤ s.heap.size := by rw [hH]; exact hE.2.1
  refine lv_aload_n hx hb dJxa1e45_init_da8c8_0 rfl (lv_at hl 0 rfl) ?_
  refine oI hx hb hml hts hown qw1_52 qw1_27 qw1_28 (Nat.le_of_ble_eq_true rfl) hl.1 (Nat.le_of_ble_eq_true rfl) dJxa1e45_init_da8c8_1 ?_
  exact cU hx hb hr hlk hB hS (by omega) (by omega) (⟨rfl, rfl⟩) dJxa1e45_init_da8c8_4

set_option maxRecDepth 100000 in
set_option maxHeartbeats 4000000 in
/-- AbstractList() -/
theorem c_ali (E : ET) (a : Nat) (v1 v2 : Value) (mo : Int32) (H : Heap) (hO : OB E 0 [.int mo, v1, v2] a H) (hg : eB E ≤ a) : Con E yJxc12de_init_da8c8 cJxc12de_init_da8c8 1 (none : Option FieldType) 2 0 0 [.ref a] H (o1 none (fun H' => OB E 0 [.int 0, v1, v2] a H' ∧ FR (fun q => q = a) H H' ∧ H'.size = H.size)) := by
  refine Con.of (C := RJxc12de) rfl (by decide +kernel) (Nat.le_of_ble_eq_true rfl) ?_
  intro p e s m below meth co ls hx hb hr hlk hml hown hts hin hE hH hS hl
  have hl : lv_has ls 1 [(0, .ref a)] := hl
  have hB : eB E ≤ s.heap.size := by rw [hH]; exact hE.2.1
  refine lv_aload_n hx hb dJxc12de_init_da8c8_0 rfl (lv_at hl 0 rfl) ?_
  refine gI hx hb hml hts hown hB hE hS kwJxc12de_1 (c_aci E a H) (Nat.le_of_ble_eq_true rfl) rfl hl.1 rfl (Nat.le_of_ble_eq_true rfl) (by omega) (by omega) dJxc12de_init_da8c8_1 (fun H1 L1 hG hz1 hE hS => ?_)
  have hG := hG.symm
  subst hG
  refine lv_aload_n hx hb dJxc12de_init_da8c8_4 rfl (lv_at hl 0 rfl) ?_
  refine lv_iconst (v := 0) hx hb dJxc12de_init_da8c8_5 (by decide) ?_
  have hF : FR (fun q => q = a) H H := FR.rf
  refine pf hx hb hts hown hE hS pkJxc12de_7 rfl hO hg rfl rfl (Nat.le_of_ble_eq_true rfl) dJxc12de_init_da8c8_6 (fun H2 L2 hO2 hz2 hq2 hE hS => ?_)
  have hO : OB E 0 [.int 0, v1, v2] a H2 := hO2
  have hF := hF.put hz2 hq2 (fun _ => rfl)
  exact cU hx hb hr hlk hB hS (by omega) (by omega) (⟨rfl, hO, hF, by omega⟩) dJxc12de_init_da8c8_9

set_option maxRecDepth 100000 in
set_option maxHeartbeats 4000000 in
/-- ArrayList() -/
theorem c_lini (E : ET) (a : Nat) (v1 : Value) (mo : Int32) (H : Heap) (hO : OB E 0 [.int mo, v1, .int 0] a H) (hg : eB E ≤ a) : Con E yJx4a65c_init_da8c8 cJx4a65c_init_da8c8 1 (none : Option FieldType) 3 0 0 [.ref a] H (o1 none (fun H' => OB E 0 [.int 0, .ref (eF E), .int (nI 0)] a H' ∧ FR (fun q => q = a) H H' ∧ H'.size = H.size)) := by
  refine Con.of (C := RJx4a65c) rfl (by decide +kernel) (Nat.le_of_ble_eq_true rfl) ?_
  intro p e s m below meth co ls hx hb hr hlk hml hown hts hin hE hH hS hl
  have hl : lv_has ls 1 [(0, .ref a)] := hl
  have hE0 := hE.2.2.2.2.1
  have hB : eB E ≤ s.heap.size := by rw [hH]; exact hE.2.1
  refine lv_aload_n hx hb dJx4a65c_init_da8c8_0 rfl (lv_at hl 0 rfl) ?_
  refine gI hx hb hml hts hown hB hE hS kwJx4a65c_1 (c_ali E a v1 (.int 0) mo H hO hg) (Nat.le_of_ble_eq_true rfl) rfl hl.1 rfl (Nat.le_of_ble_eq_true rfl) (by omega) (by omega) dJx4a65c_init_da8c8_1 (fun H1 L1 hG hz1 hE hS => ?_)
  obtain ⟨hO, hF, hz9⟩ := hG
  refine lv_aload_n hx hb dJx4a65c_init_da8c8_4 rfl (lv_at hl 0 rfl) ?_
  refine va_gets hx hb (by rw [hH]; exact hE0) hS hown (hts _ qw1_53) (fun _ h => h) dJx4a65c_init_da8c8_5 ?_
  refine pf hx hb hts hown hE hS pkJx4a65c_9 rfl hO hg rfl rfl (Nat.le_of_ble_eq_true rfl) dJx4a65c_init_da8c8_8 (fun H2 L2 hO2 hz2 hq2 hE hS => ?_)
  have hO : OB E 0 [.int 0, .ref (eF E), .int 0] a H2 := hO2
  have hF := hF.put hz2 hq2 (fun _ => rfl)
  exact cU hx hb hr hlk hB hS (by omega) (by omega) (⟨rfl, hO, hF, by omega⟩) dJx4a65c_init_da8c8_11

set_option maxRecDepth 100000 in
set_option maxHeartbeats 4000000 in
/-- Entry() -/
theorem c_eini (E : ET) (a : Nat) (d v d0 v0 : Int32) (H : Heap) (hO : OB E 3 [.int d0, .int v0] a H) (hg : eB E ≤ a) : Con E yX2_init cX2_init 3 (none : Option FieldType) 1 0 0 [.ref a, .int d, .int v] H (o1 none (fun H' => OB E 3 [.int d, .int v] a H' ∧ FR (fun q => q = a) H H' ∧ H'.size = H.size)) := by
  refine Con.of (C := RX2) rfl (by decide +kernel) (Nat.le_of_ble_eq_true rfl) ?_
  intro p e s m below meth co ls hx hb hr hlk hml hown hts hin hE hH hS hl
  have hl : lv_has ls 3 [(0, .ref a), (1, .int d), (2, .int v)] := hl
  have hB : eB E ≤ s.heap.size := by rw [hH]; exact hE.2.1
  refine lv_aload_n hx hb dX2_init_0 rfl (lv_at hl 0 rfl) ?_
  refine oI hx hb hml hts hown qw2_2 qw1_27 qw1_28 (Nat.le_of_ble_eq_true rfl) hl.1 (Nat.le_of_ble_eq_true rfl) dX2_init_1 ?_
  refine lv_aload_n hx hb dX2_init_4 rfl (lv_at hl 0 rfl) ?_
  refine lv_iload_n hx hb dX2_init_5 rfl (lv_at hl 1 rfl) ?_
  have hF : FR (fun q => q = a) H H := FR.rf
  refine pfF hx hb hts hown hin hE hS pkX2_7 rfl rfl hO hg rfl rfl (Nat.le_of_ble_eq_true rfl) dX2_init_6 (fun H1 L1 hO1 hz1 hq1 hE hS => ?_)
  have hO : OB E 3 [.int d, .int v0] a H1 := hO1
  have hF := hF.put hz1 hq1 (fun _ => rfl)
  refine lv_aload_n hx hb dX2_init_9 rfl (lv_at hl 0 rfl) ?_
  refine lv_iload_n hx hb dX2_init_10 rfl (lv_at hl 2 rfl) ?_
  refine pf hx hb hts hown hE hS pkX2_13 rfl hO hg rfl rfl (Nat.le_of_ble_eq_true rfl) dX2_init_11 (fun H2 L2 hO2 hz2 hq2 hE hS => ?_)
  have hO : OB E 3 [.int d, .int v] a H2 := hO2
  have hF := hF.put hz2 hq2 (fun _ => rfl)
  exact cU hx hb hr hlk hB hS (by omega) (by omega) (⟨rfl, hO, hF, by omega⟩) dX2_init_14

set_option maxRecDepth 100000 in
set_option maxHeartbeats 4000000 in
/-- Diary() -/
theorem c_dini (E : ET) (a : Nat) (v1 : Value) (H : Heap) (hO : OB E 2 [v1] a H) (hg : eB E ≤ a) : Con E yX1_init cX1_init 1 (none : Option FieldType) 4 1 3 [.ref a] H (o1 none (fun H' => OB E 2 [.ref H.size] a H' ∧ OB E 0 [.int 0, .ref (eF E), .int (nI 0)] H.size H' ∧ FR (fun q => q = a) H H' ∧ H'.size = H.size + 1)) := by
  refine Con.of (C := RX1) rfl (by decide +kernel) (Nat.le_of_ble_eq_true rfl) ?_
  intro p e s m below meth co ls hx hb hr hlk hml hown hts hin hE hH hS hl
  have hl : lv_has ls 1 [(0, .ref a)] := hl
  have hB : eB E ≤ s.heap.size := by rw [hH]; exact hE.2.1
  have hal := plt hO
  refine lv_aload_n hx hb dX1_init_0 rfl (lv_at hl 0 rfl) ?_
  refine oI hx hb hml hts hown qw1_40 qw1_27 qw1_28 (Nat.le_of_ble_eq_true rfl) hl.1 (Nat.le_of_ble_eq_true rfl) dX1_init_1 ?_
  refine lv_aload_n hx hb dX1_init_4 rfl (lv_at hl 0 rfl) ?_
  have hF : FR (fun q => q = a) H H := FR.rf
  refine nw (fs := [.int 0, .null, .int 0]) hx hb hts hown hE hS nkX1_9 (fun j hj => by rcases (show j = 0 ∨ j = 1 ∨ j = 2 by omega) with rfl | rfl | rfl <;> rfl) (by omega) (by omega) dX1_init_5 (fun q H1 ea1 hN hz1 hq1 hE hS hg1 => ?_)
  have hO := pk3 hO hq1
  have hF := hF.new (by omega) hq1
  refine lv_dup hx hb dX1_init_8 rfl ?_
  refine gI hx hb hml hts hown hB hE hS kwX1_11 (c_lini E q .null 0 H1 hN hg1) (Nat.le_of_ble_eq_true rfl) rfl hl.1 rfl (Nat.le_of_ble_eq_true rfl) (by omega) (by omega) dX1_init_9 (fun H2 L2 hG hz2 hE hS => ?_)
  obtain ⟨hN, hG2, hz9⟩ := hG
  have hO := hG2.at hO (by omega)
  have hF := hF.tr hG2 (fun z hz h => by omega)
  refine pfF hx hb hts hown hin hE hS pkX1_12 rfl rfl hO hg rfl rfl (Nat.le_of_ble_eq_true rfl) dX1_init_12 (fun H3 L3 hO3 hz3 hq3 hE hS => ?_)
  have hO : OB E 2 [.ref q] a H3 := hO3
  have hN := pk2 hN hq3 (by omega)
  have hF := hF.put hz3 hq3 (fun _ => rfl)
  exact cU hx hb hr hlk hB hS (by omega) (by omega) (⟨rfl, by rw [← ea1]; exact hO, by rw [← ea1]; exact hN, hF, by omega⟩) dX1_init_15
end
section
/-- a Diary as its writer sees it: the label of each of its cells begins with L -/
def DRo (E : ET) (ow : Nat → Nat × Nat) (L d : Nat) (es : Dy) (H : Heap) : Prop := ∃ (a : Nat) (ad : Nat → Nat), OB E 2 [.ref a] d H ∧ LRo E ow L a es.length ad H ∧ (∀ i x, es[i]? = some x → OB E 3 [.int x.1, .int x.2] (ad i) H ∧ ow (ad i) = (L, 3 + i) ∧ eB E ≤ ad i) ∧ ow d = (L, 0) ∧ eB E ≤ d
theorem LRo.kept {E : ET} {ow ow' : Nat → Nat × Nat} {L a c : Nat} {ad : Nat → Nat} {H H' : Heap} (h : LRo E ow L a c ad H) (hF : ∀ q, q < eB E → H'[q]? = H[q]?) (hB : eF E < eB E) (hq : ∀ q, q < H.size → ow q = (L, 1) ∨ ow q = (L, 2) → H'[q]? = H[q]?) (hw : ∀ q, q < H.size → ow' q = ow q) : LRo E ow' L a c ad H' := by
  obtain ⟨mo, arr, n, f, hO, hA, h1, h2, h3, h4, h5, h6⟩ := h
  have ha := plt hO
  have har := hA.lt
  refine ⟨mo, arr, n, f, pk1 hO (hq a ha (Or.inl h4)), ?_, h1, h2, h3, by rw [hw a ha]; exact h4, h5, ?_⟩
  · rcases h6 with ⟨e, -⟩ | ⟨e, -⟩
    · rw [e] at hA ⊢; exact hA.pk (hF _ hB)
    · exact hA.pk (hq arr har (Or.inr e))
  · rcases h6 with h6 | ⟨e, h7⟩
    · exact Or.inl h6
    · exact Or.inr ⟨by rw [hw arr har]; exact e, h7⟩
theorem DRo.kept {E : ET} {ow ow' : Nat → Nat × Nat} {L d : Nat} {es : Dy} {H H' : Heap} (h : DRo E ow L d es H) (hF : ∀ q, q < eB E → H'[q]? = H[q]?) (hB : eF E < eB E) (hq : ∀ q, q < H.size → (ow q).1 = L → H'[q]? = H[q]?) (hw : ∀ q, q < H.size → ow' q = ow q) : DRo E ow' L d es H' := by
  obtain ⟨a, ad, hO, hL, hEs, h1, h2⟩ := h
  refine ⟨a, ad, pk1 hO (hq d (plt hO) (by rw [h1])), hL.kept hF hB (fun q h9 h8 => hq q h9 (by rcases h8 with e | e <;> rw [e])) hw, fun i x hx => ?_, by rw [hw d (plt hO)]; exact h1, h2⟩
  obtain ⟨g1, g2, g3⟩ := hEs i x hx
  exact ⟨pk1 g1 (hq _ (plt g1) (by rw [g2])), by rw [hw _ (plt g1)]; exact g2, g3⟩
theorem DRo.DRx {E : ET} {ow : Nat → Nat × Nat} {L d : Nat} {es : Dy} {H : Heap} (h : DRo E ow L d es H) (hc : es.length < 2 ^ 29) : ∃ a ad, DRx E d a ad es H ∧ (∀ i x, es[i]? = some x → eB E ≤ ad i ∧ ow (ad i) = (L, 3 + i)) := by
  obtain ⟨a, ad, hO, hL, hEs, h1, h2⟩ := h
  exact ⟨a, ad, ⟨hO, hL.LR hc, fun i x hx => (hEs i x hx).1⟩, fun i x hx => ⟨(hEs i x hx).2.2, (hEs i x hx).2.1⟩⟩
theorem DRo.DR {E : ET} {ow : Nat → Nat × Nat} {L d : Nat} {es : Dy} {H : Heap} (h : DRo E ow L d es H) (hc : es.length < 2 ^ 29) : DR E d es H := by
  obtain ⟨a, ad, h1, -⟩ := h.DRx hc
  exact ⟨a, ad, h1⟩
/-- what a writer of one Diary says: the world's labels go on, new cells bear L, nothing else is changed -/
def DOut (E : ET) (ow : Nat → Nat × Nat) (L d : Nat) (es : Dy) (H H' : Heap) : Prop := ∃ ow' : Nat → Nat × Nat, (∀ q, q < H.size → ow' q = ow q) ∧ (∀ q, H.size ≤ q → (ow' q).1 = L) ∧ DRo E ow' L d es H' ∧ FR (fun q => (ow q).1 = L) H H'
def dPut (es : Dy) (day v : Int32) : Dy := match ixL day 0 es with
  | none => es ++ [(day, v)]
  | some j => es.set j (day, v)
theorem getq {α : Type} {l : List α} {i : Nat} (h : i < l.length) : ∃ x, l[i]? = some x := ⟨l[i], List.getElem?_eq_getElem h⟩
theorem ixL_at {d : Int32} : ∀ (es : Dy) (i j : Nat), ixL d i es = some j → i ≤ j ∧ ∃ x, es[j - i]? = some x ∧ x.1 = d
  | [], i, j, h => by simp [ixL] at h
  | x :: xs, i, j, h => by
    unfold ixL at h
    by_cases c : x.1 = d
    · rw [if_pos c] at h; cases h
      exact ⟨Nat.le_refl _, x, by simp, c⟩
    · rw [if_neg c] at h
      obtain ⟨h1, y, h2, h3⟩ := ixL_at xs (i + 1) j h
      refine ⟨by omega, y, ?_, h3⟩
      rw [show j - i = (j - (i + 1)) + 1 by omega, List.getElem?_cons_succ]
      exact h2
set_option maxRecDepth 100000 in
set_option maxHeartbeats 4000000 in
/-- Diary.add -/
theorem c_dadd (E : ET) (ow : Nat → Nat × Nat) (L d : Nat) (es : Dy) (day v : Int32) (H : Heap) (h : DRo E ow L d es H) (hcb : es.length ≤ 5000) : Con E yX1_add cX1_add 3 (none : Option FieldType) 8 2 (2 + (2 * es.length + 10)) [.ref d, .int day, .int v] H (o1 none (fun H' => DOut E ow L d (es ++ [(day, v)]) H H')) := by
  refine Con.of (C := RX1) rfl (by decide +kernel) (Nat.le_of_ble_eq_true rfl) ?_
  intro p e s m below meth co ls hx hb hr hlk hml hown hts hin hE hH hS hl
  have hl : lv_has ls 3 [(0, .ref d), (1, .int day), (2, .int v)] := hl
  have hB : eB E ≤ s.heap.size := by rw [hH]; exact hE.2.1
  obtain ⟨a, ad, hO, hL, hEs, hod, hgd⟩ := h
  have hBF := hE.2.2.1
  have hO0 := hO
  refine lv_aload_n hx hb dX1_add_0 rfl (lv_at hl 0 rfl) ?_
  refine gf hx hb hts hown hE lkX1_12 hO rfl dX1_add_1 ?_
  refine nw (fs := [.int 0, .int 0]) hx hb hts hown hE hS nkX1_26 (fun j hj => by rcases (show j = 0 ∨ j = 1 by omega) with rfl | rfl <;> rfl) (by omega) (by omega) dX1_add_4 (fun q H1 ea1 hN hz1 hq1 hE hS hg1 => ?_)
  have hO := pk3 hO hq1
  refine lv_dup hx hb dX1_add_7 rfl ?_
  refine lv_iload_n hx hb dX1_add_8 rfl (lv_at hl 1 rfl) ?_
  refine lv_iload_n hx hb dX1_add_9 rfl (lv_at hl 2 rfl) ?_
  refine gI hx hb hml hts hown hB hE hS kwX1_28 (c_eini E q day v 0 0 H1 hN hg1) (Nat.le_of_ble_eq_true rfl) rfl hl.1 rfl (Nat.le_of_ble_eq_true rfl) (by omega) (by omega) dX1_add_10 (fun H2 L2 hG hz2 hE hS => ?_)
  obtain ⟨hN, hG2, hz9⟩ := hG
  have hqn : ∀ z, z < H.size → H2[z]? = H[z]? := fun z hz => (hG2.2 z (by omega) (by omega)).trans (hq1 z hz)
  have hL2 : LRo E (owx ow H (L, 3 + es.length)) L a es.length ad H2 := hL.kept (fun z hz => hqn z (Nat.lt_of_lt_of_le hz (by rw [← hH]; exact hB))) hBF (fun z hz _ => hqn z hz) (fun z hz => owx_old hz)
  have hoq : owx ow H (L, 3 + es.length) q = (L, 3 + es.length) := owx_new (by omega)
  obtain ⟨fsa, hOa⟩ : ∃ fs, OB E 0 fs a H2 := by obtain ⟨mo, arr, n, f, h1, -⟩ := hL2; exact ⟨_, h1⟩
  have hoa : ow a = (L, 1) := by obtain ⟨mo, arr, n, f, h1, h2, h3, h4, h5, h6, -⟩ := hL; exact h6
  refine gV hx hb hml hts hown hB hE hS kwX1_31 (c_add E (owx ow H (L, 3 + es.length)) L a q es.length ad 3 [.int day, .int v] RX2 TX2 2 H2 hL2 (by omega) hN rfl (by decide) (fun i hi => ?_) (by rw [hoq]; constructor <;> (show 3 + es.length ≠ _; omega)) (fun i hi e9 => ?_)) hOa rfl (Nat.le_of_ble_eq_true rfl) rfl hl.1 rfl (Nat.le_of_ble_eq_true rfl) (by omega) (by omega) dX1_add_13 (fun H3 L3 hG hz3 hE hS => ?_)
  · obtain ⟨x9, hx9⟩ := getq hi
    exact ⟨_, pk1 (hEs i x9 hx9).1 (hqn _ (plt (hEs i x9 hx9).1))⟩
  · obtain ⟨x9, hx9⟩ := getq hi
    have := (hEs i x9 hx9).2.1
    rw [e9, hoa] at this
    have := congrArg (fun z : Nat × Nat => z.2) this
    simp at this
    omega
  obtain ⟨hL3, hF3⟩ := hG
  refine lv_pop hx hb dX1_add_16 rfl ?_
  have hfin : ∀ z, z < H.size → (ow z).1 ≠ L ∨ (ow z).2 = 0 ∨ 3 ≤ (ow z).2 → H3[z]? = H[z]? := fun z hz hn => (hF3.2 z (by omega) (by show ¬ (owx ow H (L, 3 + es.length) z = (L, 1) ∨ owx ow H (L, 3 + es.length) z = (L, 2)); rw [owx_old hz]; rintro (e | e) <;> rw [e] at hn <;> simp at hn)).trans (hqn z hz)
  refine cU hx hb hr hlk hB hS (by omega) (by omega) ⟨rfl, owx (owx ow H (L, 3 + es.length)) H2 (L, 2), fun z hz => by rw [owx_old (by omega), owx_old hz], fun z hz => ?_, ⟨a, va_up ad es.length q, pk1 hO0 (hfin d (plt hO0) (Or.inr (Or.inl (by rw [hod])))), by rw [List.length_append]; exact hL3, fun i x hx9 => ?_, by rw [owx_old (by have := plt hO0; omega), owx_old (plt hO0)]; exact hod, hgd⟩, ⟨by omega, fun z hz hn => hfin z hz (Or.inl hn)⟩⟩ dX1_add_17
  · by_cases c9 : z < H2.size
    · rw [owx_old c9, owx_new hz]
    · rw [owx_new (by omega)]
  · by_cases c9 : i < es.length
    · rw [List.getElem?_append_left c9] at hx9
      obtain ⟨g1, g2, g3⟩ := hEs i x hx9
      have e9 : va_up ad es.length q i = ad i := by simp only [va_up, if_neg (Nat.ne_of_lt c9)]
      have hl9 := plt g1
      rw [e9]
      exact ⟨pk1 g1 (hfin _ hl9 (Or.inr (Or.inr (by rw [g2]; show 3 ≤ 3 + i; omega)))), by rw [owx_old (by omega), owx_old hl9]; exact g2, g3⟩
    · rw [List.getElem?_append_right (by omega)] at hx9
      have hi0 : i - es.length < 1 := (List.getElem?_eq_some_iff.mp hx9).1
      have hi1 : i = es.length := by omega
      subst hi1
      rw [Nat.sub_self] at hx9
      cases hx9
      have e9 : va_up ad es.length q es.length = q := by simp [va_up]
      rw [e9]
      exact ⟨hF3.at hN (by show ¬ (owx ow H (L, 3 + es.length) q = (L, 1) ∨ owx ow H (L, 3 + es.length) q = (L, 2)); rw [hoq]; rintro (e | e) <;> (have := congrArg (fun z : Nat × Nat => z.2) e; simp at this; omega)), by rw [owx_old (by omega)]; exact hoq, hg1⟩

set_option maxRecDepth 100000 in
set_option maxHeartbeats 4000000 in
/-- Diary.put -/
theorem c_dput (E : ET) (ow : Nat → Nat × Nat) (L d : Nat) (es : Dy) (day v : Int32) (H : Heap) (h : DRo E ow L d es H) (hcb : es.length ≤ 5000) : Con E yX1_put cX1_put 4 (none : Option FieldType) 9 2 (2 + (2 * es.length + 10)) [.ref d, .int day, .int v] H (o1 none (fun H' => DOut E ow L d (dPut es day v) H H')) := by
  refine Con.of (C := RX1) rfl (by decide +kernel) (Nat.le_of_ble_eq_true rfl) ?_
  intro p e s m below meth co ls hx hb hr hlk hml hown hts hin hE hH hS hl
  have hl : lv_has ls 4 [(0, .ref d), (1, .int day), (2, .int v)] := hl
  have hB : eB E ≤ s.heap.size := by rw [hH]; exact hE.2.1
  have hh := h
  obtain ⟨a, ad, hO, hL, hEs, hod, hgd⟩ := hh
  have hD : DRx E d a ad es H := ⟨hO, hL.LR (by omega), fun i x hx => (hEs i x hx).1⟩
  have hM := c_entryOf E d a ad es day H hD
  cases hix : ixL day 0 es with
  | none =>
    rw [hix] at hM
    refine lv_aload_n hx hb dX1_put_0 rfl (lv_at hl 0 rfl) ?_
    refine lv_iload_n hx hb dX1_put_1 rfl (lv_at hl 1 rfl) ?_
    refine pV hx hb hml hts hown hE kwX1_22 hM hO rfl (Nat.le_of_ble_eq_true rfl) rfl hl.1 rfl (Nat.le_of_ble_eq_true rfl) (Nat.zero_le _) (Nat.zero_le _) dX1_put_2 ?_
    refine lv_astore_nN (lv' := [(3, .null), (0, .ref d), (1, .int day), (2, .int v)]) hx hb dX1_put_5 rfl hl (by decide) rfl (fun ls hl => ?_)
    refine lv_aload_nN hx hb dX1_put_6 rfl (lv_at hl 0 rfl) ?_
    refine lv_ifnonnullN hx hb dX1_put_7 ?_
    refine lv_aload_n hx hb dX1_put_10 rfl (lv_at hl 1 rfl) ?_
    refine lv_iload_n hx hb dX1_put_11 rfl (lv_at hl 2 rfl) ?_
    refine lv_iload_n hx hb dX1_put_12 rfl (lv_at hl 3 rfl) ?_
    refine gVU hx hb hml hts hown hB hE hS kwX1_35 (c_dadd E ow L d es day v H h hcb) hO rfl (Nat.le_of_ble_eq_true rfl) rfl hl.1 rfl (Nat.le_of_ble_eq_true rfl) (by omega) (by omega) dX1_put_13 (fun H1 L1 hG hz1 hE hS => ?_)
    refine lv_goto (tgt := 24) hx hb dX1_put_16 (by decide) ?_
    exact cU hx hb hr hlk hB hS (by omega) (by omega) (⟨rfl, by unfold dPut; rw [hix]; exact hG⟩) dX1_put_24
  | some j =>
    rw [hix] at hM
    refine lv_aload_n hx hb dX1_put_0 rfl (lv_at hl 0 rfl) ?_
    refine lv_iload_n hx hb dX1_put_1 rfl (lv_at hl 1 rfl) ?_
    refine pV hx hb hml hts hown hE kwX1_22 hM hO rfl (Nat.le_of_ble_eq_true rfl) rfl hl.1 rfl (Nat.le_of_ble_eq_true rfl) (Nat.zero_le _) (Nat.zero_le _) dX1_put_2 ?_
    obtain ⟨-, x9, hx9, hx8⟩ := ixL_at es 0 j hix
    rw [Nat.sub_zero] at hx9
    obtain ⟨hN, hoj, hgj⟩ := hEs j x9 hx9
    refine lv_astore_n (lv' := [(3, .ref (ad j)), (0, .ref d), (1, .int day), (2, .int v)]) hx hb dX1_put_5 rfl hl (by decide) rfl (fun ls hl => ?_)
    refine lv_aload_n hx hb dX1_put_6 rfl (lv_at hl 0 rfl) ?_
    refine lv_ifnonnull (tgt := 19) hx hb dX1_put_7 (by decide) ?_
    refine lv_aload_n hx hb dX1_put_19 rfl (lv_at hl 0 rfl) ?_
    refine lv_iload_n hx hb dX1_put_20 rfl (lv_at hl 3 rfl) ?_
    have hBF := hE.2.2.1
    have hF : FR (fun q => (ow q).1 = L) H H := FR.rf
    refine pf hx hb hts hown hE hS pkX1_37 rfl hN hgj rfl rfl (Nat.le_of_ble_eq_true rfl) dX1_put_21 (fun H1 L1 hO1 hz1 hq1 hE hS => ?_)
    have hN : OB E 3 [.int x9.1, .int v] (ad j) H1 := hO1
    have hF := hF.put hz1 hq1 (fun _ => by rw [hoj])
    have hne : ∀ q, q < H.size → ow q ≠ (L, 3 + j) → H1[q]? = H[q]? := fun q _ h9 => hq1 q (fun e => h9 (by rw [e]; exact hoj))
    have hjl : j < es.length := (List.getElem?_eq_some_iff.mp hx9).1
    refine cU hx hb hr hlk hB hS (by omega) (by omega) ⟨rfl, owx ow H (L, 0), fun q h9 => owx_old h9, fun q h9 => by rw [owx_new h9], ?_, hF⟩ dX1_put_24
    unfold dPut
    rw [hix]
    refine ⟨a, ad, pk1 hO (hne d (plt hO) (by rw [hod]; intro e; have := congrArg (fun z : Nat × Nat => z.2) e; simp at this; omega)), ?_, fun i x hx7 => ?_, by rw [owx_old (plt hO)]; exact hod, hgd⟩
    · rw [List.length_set]
      exact hL.kept (fun q hq9 => hq1 q (fun e => by omega)) hBF (fun q hq9 h9 => hne q hq9 (by rcases h9 with e | e <;> (rw [e]; intro e2; have := congrArg (fun z : Nat × Nat => z.2) e2; simp at this; omega))) (fun q h9 => owx_old h9)
    · by_cases c9 : i = j
      · subst c9
        rw [List.getElem?_set_self hjl] at hx7
        cases hx7
        have hN0 := (hEs i x9 hx9).1
        exact ⟨by rw [← hx8]; exact hN, by rw [owx_old (plt hN0)]; exact hoj, hgj⟩
      · rw [List.getElem?_set_ne (fun e => c9 e.symm)] at hx7
        obtain ⟨g1, g2, g3⟩ := hEs i x hx7
        exact ⟨pk1 g1 (hne _ (plt g1) (by rw [g2]; intro e; have := congrArg (fun z : Nat × Nat => z.2) e; simp at this; omega)), by rw [owx_old (plt g1)]; exact g2, g3⟩
end
section
def mkT (pa lo pf fi fs le pe : Int32) : Nat → Int32 := fun k => match k with
  | 0 => pa | 1 => lo | 2 => pf | 3 => fi | 4 => fs | 5 => le | 6 => pe | _ => 0
/-- a trade as its writer sees it -/
def SRo (E : ET) (ow : Nat → Nat × Nat) (L w : Nat) (tr : TR) (bf : Nat → Int32) (H : Heap) : Prop := ∃ db dh bd, OB E 4 (tfs tr.1 db dh bd) w H ∧ DRo E ow (L + 1) db tr.2.1 H ∧ DRo E ow (L + 2) dh tr.2.2 H ∧ IA E 11 bf bd H ∧ ow w = (L, 0) ∧ ow bd = (L, 1) ∧ eB E ≤ w ∧ eB E ≤ bd
theorem SRo.kept {E : ET} {ow ow' : Nat → Nat × Nat} {L w : Nat} {tr : TR} {bf : Nat → Int32} {H H' : Heap} (h : SRo E ow L w tr bf H) (hF : ∀ q, q < eB E → H'[q]? = H[q]?) (hB : eF E < eB E) (hq : ∀ q, q < H.size → L ≤ (ow q).1 ∧ (ow q).1 ≤ L + 2 → H'[q]? = H[q]?) (hw : ∀ q, q < H.size → ow' q = ow q) : SRo E ow' L w tr bf H' := by
  obtain ⟨db, dh, bd, h1, h2, h3, h4, h5, h6, h7, h8⟩ := h
  exact ⟨db, dh, bd, pk1 h1 (hq w (plt h1) (by rw [h5]; exact ⟨Nat.le_refl _, Nat.le_add_right _ _⟩)), h2.kept hF hB (fun q a b => hq q a (by omega)) hw, h3.kept hF hB (fun q a b => hq q a (by omega)) hw, pk1 h4 (hq bd (plt h4) (by rw [h6]; exact ⟨Nat.le_refl _, Nat.le_add_right _ _⟩)), by rw [hw w (plt h1)]; exact h5, by rw [hw bd (plt h4)]; exact h6, h7, h8⟩
/-- the calendar as its writer sees it -/
def CRo (E : ET) (ow : Nat → Nat × Nat) (q : Nat) (h0 h1 : Dy) (H : Heap) : Prop := ∃ d0 d1, OB E 1 [.ref d0, .ref d1] q H ∧ DRo E ow 2 d0 h0 H ∧ DRo E ow 3 d1 h1 H ∧ ow q = (0, 1) ∧ eB E ≤ q
theorem CRo.kept {E : ET} {ow ow' : Nat → Nat × Nat} {q : Nat} {h0 h1 : Dy} {H H' : Heap} (h : CRo E ow q h0 h1 H) (hF : ∀ q, q < eB E → H'[q]? = H[q]?) (hB : eF E < eB E) (hq : ∀ q, q < H.size → (ow q).1 = 0 ∨ (ow q).1 = 2 ∨ (ow q).1 = 3 → H'[q]? = H[q]?) (hw : ∀ q, q < H.size → ow' q = ow q) : CRo E ow' q h0 h1 H' := by
  obtain ⟨d0, d1, g1, g2, g3, g4, g5⟩ := h
  exact ⟨d0, d1, pk1 g1 (hq q (plt g1) (by rw [g4]; exact Or.inl rfl)), g2.kept hF hB (fun q a b => hq q a (Or.inr (Or.inl b))) hw, g3.kept hF hB (fun q a b => hq q a (Or.inr (Or.inr b))) hw, by rw [hw q (plt g1)]; exact g4, g5⟩
theorem CRo.CR {E : ET} {ow : Nat → Nat × Nat} {q : Nat} {h0 h1 : Dy} {H : Heap} (h : CRo E ow q h0 h1 H) (n0 : h0.length ≤ 20) (n1 : h1.length ≤ 20) : CR E q h0 h1 H := by
  obtain ⟨d0, d1, g1, g2, g3, g4, g5⟩ := h
  exact ⟨d0, d1, g1, g2.DR (by omega), g3.DR (by omega)⟩
theorem arrV_ext9 {cI : ClassId} {N : Nat} {f g : Nat → Value} (h : ∀ j, j < N → f j = g j) : arrV cI N f = arrV cI N g := by
  unfold arrV
  have e : (fun j : Fin N => f j.val) = (fun j : Fin N => g j.val) := funext fun j => h j.val j.isLt
  rw [e]
theorem IA.ext {E : ET} {n a : Nat} {f g : Nat → Int32} {H : Heap} (h : IA E n f a H) (e : ∀ i, i < n → f i = g i) : IA E n g a H := by
  refine one9 ?_
  have h0 := h 0 _ rfl
  show H[a]? = some (vp_cell _ _)
  have h0 : H[a]? = some (vp_cell (eA E 0) (n, .inl f)) := h0
  rw [h0, vp_cell_i, vp_cell_i]
  exact congrArg some (arrV_ext9 (fun j hj => by rw [e j hj]))
theorem LRo.nil {E : ET} {ow : Nat → Nat × Nat} {L a : Nat} {ad : Nat → Nat} {H : Heap} (h : OB E 0 [.int 0, .ref (eF E), .int (nI 0)] a H) (hE : E0 E (eF E) H) (ho : ow a = (L, 1)) (hg : eB E ≤ a) : LRo E ow L a 0 ad H := ⟨0, eF E, 0, fun _ => none, h, Or.inr ⟨rfl, hE⟩, Nat.le_refl _, Nat.zero_le _, fun i hi => absurd hi (Nat.not_lt_zero i), ho, hg, Or.inl ⟨rfl, rfl⟩⟩
theorem DRo.nil {E : ET} {ow : Nat → Nat × Nat} {L d a : Nat} {H : Heap} (hd : OB E 2 [.ref a] d H) (h : OB E 0 [.int 0, .ref (eF E), .int (nI 0)] a H) (hE : E0 E (eF E) H) (ho : ow a = (L, 1)) (hg : eB E ≤ a) (hod : ow d = (L, 0)) (hgd : eB E ≤ d) : DRo E ow L d [] H := ⟨a, fun _ => 0, hd, LRo.nil h hE ho hg, fun i x hx => by simp at hx, hod, hgd⟩
set_option maxRecDepth 100000 in
set_option maxHeartbeats 4000000 in
/-- Swap() -/
theorem c_sini (E : ET) (ow : Nat → Nat × Nat) (L w : Nat) (pa lo py fi fs le pe : Int32) (H : Heap) (hO : OB E 4 [.int 0, .int 0, .int 0, .int 0, .int 0, .int 0, .int 0, .int 0, .int 0, .int 0, .null, .null, .null] w H) (hp : py = 0 ∨ py = 1) (hg : eB E ≤ w) (how : ow w = (L, 0)) : Con E yX3_init cX3_init 8 (none : Option FieldType) 5 5 19 [.ref w, .int pa, .int lo, .int py, .int fi, .int fs, .int le, .int pe] H (o1 none (fun H' => ∃ ow' : Nat → Nat × Nat, (∀ q, q < H.size → ow' q = ow q) ∧ (∀ q, H.size ≤ q → L ≤ (ow' q).1 ∧ (ow' q).1 ≤ L + 2) ∧ SRo E ow' L w (mkT pa lo py fi fs le pe, [], []) (fun _ => 0) H' ∧ FR (fun q => q = w) H H')) := by
  refine Con.of (C := RX3) rfl (by decide +kernel) (Nat.le_of_ble_eq_true rfl) ?_
  intro p e s m below meth co ls hx hb hr hlk hml hown hts hin hE hH hS hl
  have hl : lv_has ls 8 [(0, .ref w), (1, .int pa), (2, .int lo), (3, .int py), (4, .int fi), (5, .int fs), (6, .int le), (7, .int pe)] := hl
  have hB : eB E ≤ s.heap.size := by rw [hH]; exact hE.2.1
  have hwl := plt hO
  refine lv_aload_n hx hb dX3_init_0 rfl (lv_at hl 0 rfl) ?_
  refine oI hx hb hml hts hown qw2_124 qw1_27 qw1_28 (Nat.le_of_ble_eq_true rfl) hl.1 (Nat.le_of_ble_eq_true rfl) dX3_init_1 ?_
  refine lv_aload_n hx hb dX3_init_4 rfl (lv_at hl 0 rfl) ?_
  refine lv_iload_n hx hb dX3_init_5 rfl (lv_at hl 1 rfl) ?_
  have hF : FR (fun q => q = w) H H := FR.rf
  refine pfF hx hb hts hown hin hE hS pkX3_9 rfl rfl hO hg rfl rfl (Nat.le_of_ble_eq_true rfl) dX3_init_6 (fun H1 L1 hO1 hz1 hq1 hE hS => ?_)
  have hO : OB E 4 [.int pa, .int 0, .int 0, .int 0, .int 0, .int 0, .int 0, .int 0, .int 0, .int 0, .null, .null, .null] w H1 := hO1
  have hF := hF.put hz1 hq1 (fun _ => rfl)
  refine lv_aload_n hx hb dX3_init_9 rfl (lv_at hl 0 rfl) ?_
  refine lv_iload_n hx hb dX3_init_10 rfl (lv_at hl 2 rfl) ?_
  refine pfF hx hb hts hown hin hE hS pkX3_15 rfl rfl hO hg rfl rfl (Nat.le_of_ble_eq_true rfl) dX3_init_11 (fun H2 L2 hO2 hz2 hq2 hE hS => ?_)
  have hO : OB E 4 [.int pa, .int lo, .int 0, .int 0, .int 0, .int 0, .int 0, .int 0, .int 0, .int 0, .null, .null, .null] w H2 := hO2
  have hF := hF.put hz2 hq2 (fun _ => rfl)
  refine lv_aload_n hx hb dX3_init_14 rfl (lv_at hl 0 rfl) ?_
  refine lv_iload_n hx hb dX3_init_15 rfl (lv_at hl 3 rfl) ?_
  refine pfF hx hb hts hown hin hE hS pkX3_18 rfl rfl hO hg (by rcases hp with rfl | rfl <;> rfl) (by rcases hp with rfl | rfl <;> rfl) (Nat.le_of_ble_eq_true rfl) dX3_init_16 (fun H3 L3 hO3 hz3 hq3 hE hS => ?_)
  have hO : OB E 4 [.int pa, .int lo, .int py, .int 0, .int 0, .int 0, .int 0, .int 0, .int 0, .int 0, .null, .null, .null] w H3 := hO3
  have hF := hF.put hz3 hq3 (fun _ => rfl)
  refine lv_aload_n hx hb dX3_init_19 rfl (lv_at hl 0 rfl) ?_
  refine lv_iload hx hb dX3_init_20 (lv_at hl 4 rfl) ?_
  refine pfF hx hb hts hown hin hE hS pkX3_22 rfl rfl hO hg rfl rfl (Nat.le_of_ble_eq_true rfl) dX3_init_22 (fun H4 L4 hO4 hz4 hq4 hE hS => ?_)
  have hO : OB E 4 [.int pa, .int lo, .int py, .int fi, .int 0, .int 0, .int 0, .int 0, .int 0, .int 0, .null, .null, .null] w H4 := hO4
  have hF := hF.put hz4 hq4 (fun _ => rfl)
  refine lv_aload_n hx hb dX3_init_25 rfl (lv_at hl 0 rfl) ?_
  refine lv_iload hx hb dX3_init_26 (lv_at hl 5 rfl) ?_
  refine pfF hx hb hts hown hin hE hS pkX3_25 rfl rfl hO hg rfl rfl (Nat.le_of_ble_eq_true rfl) dX3_init_28 (fun H5 L5 hO5 hz5 hq5 hE hS => ?_)
  have hO : OB E 4 [.int pa, .int lo, .int py, .int fi, .int fs, .int 0, .int 0, .int 0, .int 0, .int 0, .null, .null, .null] w H5 := hO5
  have hF := hF.put hz5 hq5 (fun _ => rfl)
  refine lv_aload_n hx hb dX3_init_31 rfl (lv_at hl 0 rfl) ?_
  refine lv_iload hx hb dX3_init_32 (lv_at hl 6 rfl) ?_
  refine pfF hx hb hts hown hin hE hS pkX3_28 rfl rfl hO hg rfl rfl (Nat.le_of_ble_eq_true rfl) dX3_init_34 (fun H6 L6 hO6 hz6 hq6 hE hS => ?_)
  have hO : OB E 4 [.int pa, .int lo, .int py, .int fi, .int fs, .int le, .int 0, .int 0, .int 0, .int 0, .null, .null, .null] w H6 := hO6
  have hF := hF.put hz6 hq6 (fun _ => rfl)
  refine lv_aload_n hx hb dX3_init_37 rfl (lv_at hl 0 rfl) ?_
  refine lv_iload hx hb dX3_init_38 (lv_at hl 7 rfl) ?_
  refine pfF hx hb hts hown hin hE hS pkX3_31 rfl rfl hO hg rfl rfl (Nat.le_of_ble_eq_true rfl) dX3_init_40 (fun H7 L7 hO7 hz7 hq7 hE hS => ?_)
  have hO : OB E 4 [.int pa, .int lo, .int py, .int fi, .int fs, .int le, .int pe, .int 0, .int 0, .int 0, .null, .null, .null] w H7 := hO7
  have hF := hF.put hz7 hq7 (fun _ => rfl)
  refine lv_aload_n hx hb dX3_init_43 rfl (lv_at hl 0 rfl) ?_
  refine lv_iconst (v := 0) hx hb dX3_init_44 (by decide) ?_
  refine pf hx hb hts hown hE hS pkX3_34 rfl hO hg rfl rfl (Nat.le_of_ble_eq_true rfl) dX3_init_45 (fun H8 L8 hO8 hz8 hq8 hE hS => ?_)
  have hO : OB E 4 [.int pa, .int lo, .int py, .int fi, .int fs, .int le, .int pe, .int 0, .int 0, .int 0, .null, .null, .null] w H8 := hO8
  have hF := hF.put hz8 hq8 (fun _ => rfl)
  refine lv_aload_n hx hb dX3_init_48 rfl (lv_at hl 0 rfl) ?_
  refine lv_iconst (v := 0) hx hb dX3_init_49 (by decide) ?_
  refine pf hx hb hts hown hE hS pkX3_37 rfl hO hg rfl rfl (Nat.le_of_ble_eq_true rfl) dX3_init_50 (fun H9 L9 hO9 hz9 hq9 hE hS => ?_)
  have hO : OB E 4 [.int pa, .int lo, .int py, .int fi, .int fs, .int le, .int pe, .int 0, .int 0, .int 0, .null, .null, .null] w H9 := hO9
  have hF := hF.put hz9 hq9 (fun _ => rfl)
  refine lv_aload_n hx hb dX3_init_53 rfl (lv_at hl 0 rfl) ?_
  refine lv_iconst (v := 0) hx hb dX3_init_54 (by decide) ?_
  refine pf hx hb hts hown hE hS pkX3_40 rfl hO hg rfl rfl (Nat.le_of_ble_eq_true rfl) dX3_init_55 (fun H10 L10 hO10 hz10 hq10 hE hS => ?_)
  have hO : OB E 4 [.int pa, .int lo, .int py, .int fi, .int fs, .int le, .int pe, .int 0, .int 0, .int 0, .null, .null, .null] w H10 := hO10
  have hF := hF.put hz10 hq10 (fun _ => rfl)
  refine lv_aload_n hx hb dX3_init_58 rfl (lv_at hl 0 rfl) ?_
  have hs0 : H10.size = H.size := by omega
  refine nw (fs := [.null]) hx hb hts hown hE hS nkX3_43 (fun j hj => by rcases (show j = 0 by omega) with rfl <;> rfl) (by omega) (by omega) dX3_init_59 (fun db H11 ea11 hD1 hz11 hq11 hE hS hg11 => ?_)
  have hO := pk3 hO hq11
  have hF := hF.new (by omega) hq11
  refine lv_dup hx hb dX3_init_62 rfl ?_
  refine gI hx hb hml hts hown hB hE hS kwX3_45 (c_dini E db .null H11 hD1 hg11) (Nat.le_of_ble_eq_true rfl) rfl hl.1 rfl (Nat.le_of_ble_eq_true rfl) (by omega) (by omega) dX3_init_63 (fun H12 L12 hG hz12 hE hS => ?_)
  obtain ⟨hD1, hL1, hG2, hz9_12⟩ := hG
  obtain ⟨dbl, eldb⟩ : ∃ z, z = H11.size := ⟨_, rfl⟩
  rw [← eldb] at hD1 hL1
  have hO := hG2.at hO (by omega)
  have hF := hF.tr hG2 (fun z hz h => by omega)
  refine pfF hx hb hts hown hin hE hS pkX3_46 rfl rfl hO hg rfl rfl (Nat.le_of_ble_eq_true rfl) dX3_init_66 (fun H13 L13 hO13 hz13 hq13 hE hS => ?_)
  have hO : OB E 4 [.int pa, .int lo, .int py, .int fi, .int fs, .int le, .int pe, .int 0, .int 0, .int 0, .ref db, .null, .null] w H13 := hO13
  have hD1 := pk2 hD1 hq13 (by omega)
  have hL1 := pk2 hL1 hq13 (by omega)
  have hF := hF.put hz13 hq13 (fun _ => rfl)
  refine lv_aload_n hx hb dX3_init_69 rfl (lv_at hl 0 rfl) ?_
  refine nw (fs := [.null]) hx hb hts hown hE hS nkX3_43 (fun j hj => by rcases (show j = 0 by omega) with rfl <;> rfl) (by omega) (by omega) dX3_init_70 (fun dh H14 ea14 hD2 hz14 hq14 hE hS hg14 => ?_)
  have hO := pk3 hO hq14
  have hD1 := pk3 hD1 hq14
  have hL1 := pk3 hL1 hq14
  have hF := hF.new (by omega) hq14
  refine lv_dup hx hb dX3_init_73 rfl ?_
  refine gI hx hb hml hts hown hB hE hS kwX3_45 (c_dini E dh .null H14 hD2 hg14) (Nat.le_of_ble_eq_true rfl) rfl hl.1 rfl (Nat.le_of_ble_eq_true rfl) (by omega) (by omega) dX3_init_74 (fun H15 L15 hG hz15 hE hS => ?_)
  obtain ⟨hD2, hL2, hG2, hz9_15⟩ := hG
  obtain ⟨dhl, eldh⟩ : ∃ z, z = H14.size := ⟨_, rfl⟩
  rw [← eldh] at hD2 hL2
  have hO := hG2.at hO (by omega)
  have hD1 := hG2.at hD1 (by omega)
  have hL1 := hG2.at hL1 (by omega)
  have hF := hF.tr hG2 (fun z hz h => by omega)
  refine pfF hx hb hts hown hin hE hS pkX3_50 rfl rfl hO hg rfl rfl (Nat.le_of_ble_eq_true rfl) dX3_init_77 (fun H16 L16 hO16 hz16 hq16 hE hS => ?_)
  have hO : OB E 4 [.int pa, .int lo, .int py, .int fi, .int fs, .int le, .int pe, .int 0, .int 0, .int 0, .ref db, .ref dh, .null] w H16 := hO16
  have hD1 := pk2 hD1 hq16 (by omega)
  have hL1 := pk2 hL1 hq16 (by omega)
  have hD2 := pk2 hD2 hq16 (by omega)
  have hL2 := pk2 hL2 hq16 (by omega)
  have hF := hF.put hz16 hq16 (fun _ => rfl)
  refine lv_aload_n hx hb dX3_init_80 rfl (lv_at hl 0 rfl) ?_
  refine lv_bipush (v := 11) hx hb dX3_init_81 (by decide) ?_
  refine naI (N' := 11) hx hb hts hE hS qw2_170 rfl (by omega) (by omega) (by omega) dX3_init_83 (fun bd H17 ea17 hA hz17 hq17 hE hS hg17 => ?_)
  have hO := pk3 hO hq17
  have hD1 := pk3 hD1 hq17
  have hL1 := pk3 hL1 hq17
  have hD2 := pk3 hD2 hq17
  have hL2 := pk3 hL2 hq17
  have hF := hF.new (by omega) hq17
  refine pfF hx hb hts hown hin hE hS pkX3_53 rfl rfl hO hg rfl rfl (Nat.le_of_ble_eq_true rfl) dX3_init_85 (fun H18 L18 hO18 hz18 hq18 hE hS => ?_)
  have hO : OB E 4 [.int pa, .int lo, .int py, .int fi, .int fs, .int le, .int pe, .int 0, .int 0, .int 0, .ref db, .ref dh, .ref bd] w H18 := hO18
  have hD1 := pk2 hD1 hq18 (by omega)
  have hL1 := pk2 hL1 hq18 (by omega)
  have hD2 := pk2 hD2 hq18 (by omega)
  have hL2 := pk2 hL2 hq18 (by omega)
  have hA := pk2 hA hq18 (by omega)
  have hF := hF.put hz18 hq18 (fun _ => rfl)
  have hEF := hE.2.2.2.1
  have hgB : eB E ≤ H.size := by rw [← hH]; exact hB
  refine cU hx hb hr hlk hB hS (by omega) (by omega) ⟨rfl, fun q => if q < H.size then ow q else if q = db then (L + 1, 0) else if q = dbl then (L + 1, 1) else if q = dh then (L + 2, 0) else if q = dhl then (L + 2, 1) else (L, 1), fun q h9 => if_pos h9, fun q h9 => ?_, ⟨db, dh, bd, hO, DRo.nil hD1 hL1 hEF ?_ (by omega) ?_ (by omega), DRo.nil hD2 hL2 hEF ?_ (by omega) ?_ (by omega), hA, ?_, ?_, hg, by omega⟩, hF⟩ dX3_init_88
  · (try dsimp only)
    rw [if_neg (Nat.not_lt.mpr h9)]
    repeat (split; · constructor <;> (dsimp only; omega))
    exact ⟨Nat.le_refl _, Nat.le_add_right _ _⟩
  · (try dsimp only)
    rw [if_neg (by omega), if_neg (by omega), if_pos rfl]
  · (try dsimp only)
    rw [if_neg (by omega), if_pos rfl]
  · (try dsimp only)
    rw [if_neg (by omega), if_neg (by omega), if_neg (by omega), if_neg (by omega), if_pos rfl]
  · (try dsimp only)
    rw [if_neg (by omega), if_neg (by omega), if_neg (by omega), if_pos rfl]
  · (try dsimp only)
    rw [if_pos hwl]; exact how
  · (try dsimp only)
    rw [if_neg (by omega), if_neg (by omega), if_neg (by omega), if_neg (by omega), if_neg (by omega)]

set_option maxRecDepth 100000 in
set_option maxHeartbeats 4000000 in
/-- Swap.rollDays -/
theorem c_rollDays (E : ET) (ow : Nat → Nat × Nat) (L w q db dh bd f le n : Nat) (T : Nat → Int32) (bf : Nat → Int32) (h0 h1 : Dy) (H : Heap) (hO : OB E 4 (tfs T db dh bd) w H) (hA : IA E 11 bf bd H) (hC : CRo E ow q h0 h1 H) (n0 : h0.length ≤ 20) (n1 : h1.length ≤ 20) (how : ow w = (L, 0)) (hobd : ow bd = (L, 1)) (hL : 10 ≤ L) (hg : eB E ≤ bd) (t4 : T 4 = nI f) (t5 : T 5 = nI le) (t6 : T 6 = nI n) (hf : f ≤ 1000) (hle : le ≤ 180) (hn : n ≤ 10) (hz0 : ∀ i, n < i → bf i = 0) : Con E yX3_rollDays cX3_rollDays 3 (none : Option FieldType) 8 0 0 [.ref w, .ref q] H (o1 none (fun H' => IA E 11 (bfC h0 h1 T) bd H' ∧ FR (fun q => q = bd) H H' ∧ H'.size = H.size)) := by
  refine Con.of (C := RX3) rfl (by decide +kernel) (Nat.le_of_ble_eq_true rfl) ?_
  intro p e s m below meth co ls hx hb hr hlk hml hown hts hin hE hH hS hl
  have hl : lv_has ls 3 [(0, .ref w), (1, .ref q)] := hl
  have hB : eB E ≤ s.heap.size := by rw [hH]; exact hE.2.1
  have hwb : w ≠ bd := fun e => by rw [e, hobd] at how; cases how
  have hBF := hE.2.2.1
  have hgB : eB E ≤ H.size := by rw [← hH]; exact hB
  refine lv_iconst (v := 0) hx hb dX3_rollDays_0 (by decide) ?_
  refine lv_istore_n (lv' := [(2, .int 0), (0, .ref w), (1, .ref q)]) hx hb dX3_rollDays_1 rfl hl (by decide) rfl (fun ls hl => ?_)
  have loop : ∀ (r i : Nat) (K : Heap) (locs : List Loc) (ls : Array Slot), i + r = n + 1 → IA E 11 (fun j => if j < i then nI (rol h0 h1 (f + j * le)) else bf j) bd K → FR (fun q => q = bd) H K → K.size = H.size → EV E s K → va_S (fr E) s.heap K locs → lv_has ls 3 [(2, .int (nI i)), (0, .ref w), (1, .ref q)] → W p (eL E) e (rmk 8 0 0) s m ([.ref w, .ref q]).toArray below meth co K locs 0 0 (MQ below (CQ E (o1 none (fun H' => IA E 11 (bfC h0 h1 T) bd H' ∧ FR (fun q => q = bd) H H' ∧ H'.size = H.size))) ([.ref w, .ref q]).toArray s 0 0 (fr E)) (F0 m 2 ls []) := by
    intro r
    induction r with
    | zero =>
      intro i K locs ls hi hA hF hz hE hS hl
      have hi2 : i = n + 1 := by omega
      have hO := hF.at hO hwb
      refine lv_iload_n hx hb dX3_rollDays_2 rfl (lv_at hl 0 rfl) ?_
      refine lv_aload_n hx hb dX3_rollDays_3 rfl (lv_at hl 1 rfl) ?_
      refine gf hx hb hts hown hE lkX3_31 hO rfl dX3_rollDays_4 ?_
      rw [t6]
      refine lv_icmp_gt (tgt := 46) hx hb dX3_rollDays_7 (by decide) (fun c1 => ?_) (fun c1 => ?_)
      rotate_left
      · exact absurd (nI_lt (by omega) (by omega)) c1
      refine cU hx hb hr hlk hB hS (by omega) (by omega) ⟨rfl, IA.ext hA (fun j hj => ?_), hF, hz⟩ dX3_rollDays_46
      by_cases c9 : j ≤ n
      · rw [if_pos (by omega), bfC_eq t4 t5 t6 (by omega) (by omega) (by omega) c9]
      · rw [if_neg (by omega), hz0 j (by omega)]
        unfold bfC
        rw [t6, nI_clamp (by omega), if_neg c9]
    | succ r ih =>
      intro i K locs ls hi hA hF hz hE hS hl
      have hO := hF.at hO hwb
      have hC2 : CRo E ow q h0 h1 K := hC.kept (fun z h9 => hF.2 z (by omega) (fun e => by omega)) hBF (fun z h9 h8 => hF.2 z h9 (fun e => by rw [e, hobd] at h8; simp at h8; omega)) (fun _ _ => rfl)
      obtain ⟨d0, d1, hq1, -⟩ := id hC2
      refine lv_iload_n hx hb dX3_rollDays_2 rfl (lv_at hl 0 rfl) ?_
      refine lv_aload_n hx hb dX3_rollDays_3 rfl (lv_at hl 1 rfl) ?_
      refine gf hx hb hts hown hE lkX3_31 hO rfl dX3_rollDays_4 ?_
      rw [t6]
      refine lv_icmp_gt (tgt := 46) hx hb dX3_rollDays_7 (by decide) (fun c1 => ?_) (fun c1 => ?_)
      · exact absurd c1 (nI_nlt (by omega) (by omega))
      refine lv_iload_n hx hb dX3_rollDays_10 rfl (lv_at hl 0 rfl) ?_
      refine lv_aload_n hx hb dX3_rollDays_11 rfl (lv_at hl 1 rfl) ?_
      refine gf hx hb hts hown hE lkX3_53 hO rfl dX3_rollDays_12 ?_
      refine aLI hx hb hE hA dX3_rollDays_15 ?_
      refine lv_icmp_ge (tgt := 46) hx hb dX3_rollDays_16 (by decide) (fun c2 => ?_) (fun c2 => ?_)
      · exact absurd c2 (show ¬ nI 11 ≤ nI i from nI_ge (by omega) (by decide))
      refine lv_aload_n hx hb dX3_rollDays_19 rfl (lv_at hl 1 rfl) ?_
      refine gf hx hb hts hown hE lkX3_53 hO rfl dX3_rollDays_20 ?_
      refine lv_iload_n hx hb dX3_rollDays_23 rfl (lv_at hl 0 rfl) ?_
      refine lv_aload_n hx hb dX3_rollDays_24 rfl (lv_at hl 2 rfl) ?_
      refine lv_aload_n hx hb dX3_rollDays_25 rfl (lv_at hl 1 rfl) ?_
      refine gf hx hb hts hown hE lkX3_25 hO rfl dX3_rollDays_26 ?_
      refine lv_iload_n hx hb dX3_rollDays_29 rfl (lv_at hl 0 rfl) ?_
      refine lv_aload_n hx hb dX3_rollDays_30 rfl (lv_at hl 1 rfl) ?_
      refine gf hx hb hts hown hE lkX3_28 hO rfl dX3_rollDays_31 ?_
      refine lv_imul hx hb dX3_rollDays_34 ?_
      refine lv_iadd hx hb dX3_rollDays_35 ?_
      have ek : i * le ≤ 10 * 180 := Nat.mul_le_mul (by omega) (by omega)
      rw [show T 4 + nI i * T 5 = nI (f + i * le) by rw [t4, t5, pk_mul, nI_add]]
      refine pV hx hb hml hts hown hE kwX3_57 (c_rol E q (f + i * le) h0 h1 K (by omega) (hC2.CR n0 n1)) hq1 rfl (Nat.le_of_ble_eq_true rfl) rfl hl.1 rfl (Nat.le_of_ble_eq_true rfl) (Nat.zero_le _) (Nat.zero_le _) dX3_rollDays_36 ?_
      refine asI hx hb hE hS hA hg  rfl (show i < 11 by omega) (by omega) dX3_rollDays_39 (fun H1 L1 hO1 hz1 hq1_ hE hS => ?_)
      have hA : IA E 11 (upd (fun j => if j < i then nI (rol h0 h1 (f + j * le)) else bf j) i (nI (rol h0 h1 (f + i * le)))) bd H1 := hO1
      refine lv_iinc (v := nI (i + 1)) (lv' := [(2, .int (nI (i + 1))), (0, .ref w), (1, .ref q)]) hx hb dX3_rollDays_40 hl (k := 0) rfl (nI_1 i) (by decide) rfl (fun ls hl => ?_)
      refine lv_goto (tgt := 2) hx hb dX3_rollDays_43 (by decide) ?_
      refine ih (i + 1) H1 L1 ls (by omega) (IA.ext hA (fun j hj => ?_)) (hF.put hz1 hq1_ (fun _ => rfl)) (by omega) hE hS (lv_sub hl [0, 1, 2] rfl)
      by_cases c9 : j = i
      · subst c9; rw [if_pos (by omega)]; simp [upd]
      · have e9 : (j < i + 1) ↔ (j < i) := by omega
        simp only [upd, if_neg c9, e9]
  exact loop (n + 1) 0 H [] ls (by omega) (IA.ext hA (fun j hj => by rw [if_neg (Nat.not_lt_zero j)])) FR.rf rfl hE hS (lv_sub hl [0, 1, 2] rfl)
end
section
/-- the office as its writer sees it: x the object, labels other than 4 are its own -/
def XR (E : ET) (ow : Nat → Nat × Nat) (x : Nat) (h0 h1 fx : Dy) (ts : List TR) (H : Heap) : Prop := ∃ (q fd bk : Nat) (wa : Nat → Nat), OB E 5 [.ref q, .ref fd, .ref bk] x H ∧ CRo E ow q h0 h1 H ∧ DRo E ow 1 fd fx H ∧ LRo E ow 5 bk ts.length wa H ∧ (∀ t tr, ts[t]? = some tr → SRo E ow (10 + 3 * t) (wa t) tr (bfC h0 h1 tr.1) H) ∧ ow x = (0, 0) ∧ eB E ≤ x
def XOut (E : ET) (ow : Nat → Nat × Nat) (x : Nat) (h0 h1 fx : Dy) (ts : List TR) (H H' : Heap) : Prop := ∃ ow' : Nat → Nat × Nat, (∀ q, q < H.size → ow' q = ow q) ∧ (∀ q, H.size ≤ q → (ow' q).1 ≠ 4) ∧ XR E ow' x h0 h1 fx ts H' ∧ FR (fun q => (ow q).1 ≠ 4) H H'
set_option maxRecDepth 100000 in
set_option maxHeartbeats 4000000 in
/-- Calendar() -/
theorem c_cini (E : ET) (q : Nat) (H : Heap) (hO : OB E 1 [.null, .null] q H) (hg : eB E ≤ q) : Con E yX0_init cX0_init 1 (none : Option FieldType) 5 4 8 [.ref q] H (o1 none (fun H' => OB E 1 [.ref H.size, .ref (H.size + 2)] q H' ∧ OB E 2 [.ref (H.size + 1)] H.size H' ∧ OB E 0 [.int 0, .ref (eF E), .int (nI 0)] (H.size + 1) H' ∧ OB E 2 [.ref (H.size + 3)] (H.size + 2) H' ∧ OB E 0 [.int 0, .ref (eF E), .int (nI 0)] (H.size + 3) H' ∧ FR (fun z => z = q) H H' ∧ H'.size = H.size + 4)) := by
  refine Con.of (C := RX0) rfl (by decide +kernel) (Nat.le_of_ble_eq_true rfl) ?_
  intro p e s m below meth co ls hx hb hr hlk hml hown hts hin hE hH hS hl
  have hl : lv_has ls 1 [(0, .ref q)] := hl
  have hB : eB E ≤ s.heap.size := by rw [hH]; exact hE.2.1
  have hwl := plt hO
  refine lv_aload_n hx hb dX0_init_0 rfl (lv_at hl 0 rfl) ?_
  refine oI hx hb hml hts hown qw1_34 qw1_27 qw1_28 (Nat.le_of_ble_eq_true rfl) hl.1 (Nat.le_of_ble_eq_true rfl) dX0_init_1 ?_
  refine lv_aload_n hx hb dX0_init_4 rfl (lv_at hl 0 rfl) ?_
  have hF : FR (fun z => z = q) H H := FR.rf
  refine nw (fs := [.null]) hx hb hts hown hE hS nkX0_9 (fun j hj => by rcases (show j = 0 by omega) with rfl <;> rfl) (by omega) (by omega) dX0_init_5 (fun da H1 ea1 hD1 hz1 hq1 hE hS hg1 => ?_)
  have hO := pk3 hO hq1
  have hF := hF.new (by omega) hq1
  refine lv_dup hx hb dX0_init_8 rfl ?_
  refine gI hx hb hml hts hown hB hE hS kwX0_11 (c_dini E da .null H1 hD1 hg1) (Nat.le_of_ble_eq_true rfl) rfl hl.1 rfl (Nat.le_of_ble_eq_true rfl) (by omega) (by omega) dX0_init_9 (fun H2 L2 hG hz2 hE hS => ?_)
  obtain ⟨hD1, hL1, hG2, hz9_2⟩ := hG
  obtain ⟨dal, elda⟩ : ∃ z, z = H1.size := ⟨_, rfl⟩
  rw [← elda] at hD1 hL1
  have hO := hG2.at hO (by omega)
  have hF := hF.tr hG2 (fun z hz h => by omega)
  refine pfF hx hb hts hown hin hE hS pkX0_12 rfl rfl hO hg rfl rfl (Nat.le_of_ble_eq_true rfl) dX0_init_12 (fun H3 L3 hO3 hz3 hq3 hE hS => ?_)
  have hO : OB E 1 [.ref da, .null] q H3 := hO3
  have hD1 := pk2 hD1 hq3 (by omega)
  have hL1 := pk2 hL1 hq3 (by omega)
  have hF := hF.put hz3 hq3 (fun _ => rfl)
  refine lv_aload_n hx hb dX0_init_15 rfl (lv_at hl 0 rfl) ?_
  refine nw (fs := [.null]) hx hb hts hown hE hS nkX0_9 (fun j hj => by rcases (show j = 0 by omega) with rfl <;> rfl) (by omega) (by omega) dX0_init_16 (fun db H4 ea4 hD2 hz4 hq4 hE hS hg4 => ?_)
  have hO := pk3 hO hq4
  have hD1 := pk3 hD1 hq4
  have hL1 := pk3 hL1 hq4
  have hF := hF.new (by omega) hq4
  refine lv_dup hx hb dX0_init_19 rfl ?_
  refine gI hx hb hml hts hown hB hE hS kwX0_11 (c_dini E db .null H4 hD2 hg4) (Nat.le_of_ble_eq_true rfl) rfl hl.1 rfl (Nat.le_of_ble_eq_true rfl) (by omega) (by omega) dX0_init_20 (fun H5 L5 hG hz5 hE hS => ?_)
  obtain ⟨hD2, hL2, hG2, hz9_5⟩ := hG
  obtain ⟨dbl, eldb⟩ : ∃ z, z = H4.size := ⟨_, rfl⟩
  rw [← eldb] at hD2 hL2
  have hO := hG2.at hO (by omega)
  have hD1 := hG2.at hD1 (by omega)
  have hL1 := hG2.at hL1 (by omega)
  have hF := hF.tr hG2 (fun z hz h => by omega)
  refine pfF hx hb hts hown hin hE hS pkX0_18 rfl rfl hO hg rfl rfl (Nat.le_of_ble_eq_true rfl) dX0_init_23 (fun H6 L6 hO6 hz6 hq6 hE hS => ?_)
  have hO : OB E 1 [.ref da, .ref db] q H6 := hO6
  have hD1 := pk2 hD1 hq6 (by omega)
  have hL1 := pk2 hL1 hq6 (by omega)
  have hD2 := pk2 hD2 hq6 (by omega)
  have hL2 := pk2 hL2 hq6 (by omega)
  have hF := hF.put hz6 hq6 (fun _ => rfl)
  have a1 : da = H.size := by omega
  have a2 : dal = H.size + 1 := by omega
  have a3 : db = H.size + 2 := by omega
  have a4 : dbl = H.size + 3 := by omega
  rw [a1, a3] at hO
  rw [a1, a2] at hD1
  rw [a2] at hL1
  rw [a3, a4] at hD2
  rw [a4] at hL2
  exact cU hx hb hr hlk hB hS (by omega) (by omega) (⟨rfl, hO, hD1, hL1, hD2, hL2, hF, by omega⟩) dX0_init_26

set_option maxRecDepth 100000 in
set_option maxHeartbeats 4000000 in
/-- Resetline() -/
theorem c_xini (E : ET) (ow : Nat → Nat × Nat) (x : Nat) (H : Heap) (hO : OB E 5 [.null, .null, .null] x H) (hg : eB E ≤ x) (hox : ow x = (0, 0)) : Con E yX4_init cX4_init 1 (none : Option FieldType) 6 8 17 [.ref x] H (o1 none (fun H' => XOut E ow x [] [] [] [] H H')) := by
  refine Con.of (C := RX4) rfl (by decide +kernel) (Nat.le_of_ble_eq_true rfl) ?_
  intro p e s m below meth co ls hx hb hr hlk hml hown hts hin hE hH hS hl
  have hl : lv_has ls 1 [(0, .ref x)] := hl
  have hB : eB E ≤ s.heap.size := by rw [hH]; exact hE.2.1
  have hwl := plt hO
  refine lv_aload_n hx hb dX4_init_0 rfl (lv_at hl 0 rfl) ?_
  refine oI hx hb hml hts hown qw1_26 qw1_27 qw1_28 (Nat.le_of_ble_eq_true rfl) hl.1 (Nat.le_of_ble_eq_true rfl) dX4_init_1 ?_
  refine lv_aload_n hx hb dX4_init_4 rfl (lv_at hl 0 rfl) ?_
  have hF : FR (fun z => z = x) H H := FR.rf
  refine nw (fs := [.null, .null]) hx hb hts hown hE hS nkX4_7 (fun j hj => by rcases (show j = 0 ∨ j = 1 by omega) with rfl | rfl <;> rfl) (by omega) (by omega) dX4_init_5 (fun q H1 ea1 hQ hz1 hq1 hE hS hg1 => ?_)
  have hO := pk3 hO hq1
  have hF := hF.new (by omega) hq1
  refine lv_dup hx hb dX4_init_8 rfl ?_
  refine gI hx hb hml hts hown hB hE hS kwX4_9 (c_cini E q H1 hQ hg1) (Nat.le_of_ble_eq_true rfl) rfl hl.1 rfl (Nat.le_of_ble_eq_true rfl) (by omega) (by omega) dX4_init_9 (fun H2 L2 hG hz2 hE hS => ?_)
  obtain ⟨hQ, hD1, hL1, hD2, hL2, hG2, hz9_2⟩ := hG
  obtain ⟨a1, e1⟩ : ∃ z, z = H1.size := ⟨_, rfl⟩
  rw [← e1] at hQ hD1 hL1 hD2 hL2
  have hO := hG2.at hO (by omega)
  have hF := hF.tr hG2 (fun z hz h => by omega)
  refine pfF hx hb hts hown hin hE hS pkX4_10 rfl rfl hO hg rfl rfl (Nat.le_of_ble_eq_true rfl) dX4_init_12 (fun H3 L3 hO3 hz3 hq3 hE hS => ?_)
  have hO : OB E 5 [.ref q, .null, .null] x H3 := hO3
  have hQ := pk2 hQ hq3 (by omega)
  have hD1 := pk2 hD1 hq3 (by omega)
  have hL1 := pk2 hL1 hq3 (by omega)
  have hD2 := pk2 hD2 hq3 (by omega)
  have hL2 := pk2 hL2 hq3 (by omega)
  have hF := hF.put hz3 hq3 (fun _ => rfl)
  refine lv_aload_n hx hb dX4_init_15 rfl (lv_at hl 0 rfl) ?_
  refine nw (fs := [.null]) hx hb hts hown hE hS nkX4_16 (fun j hj => by rcases (show j = 0 by omega) with rfl <;> rfl) (by omega) (by omega) dX4_init_16 (fun fd H4 ea4 hD3 hz4 hq4 hE hS hg4 => ?_)
  have hO := pk3 hO hq4
  have hQ := pk3 hQ hq4
  have hD1 := pk3 hD1 hq4
  have hL1 := pk3 hL1 hq4
  have hD2 := pk3 hD2 hq4
  have hL2 := pk3 hL2 hq4
  have hF := hF.new (by omega) hq4
  refine lv_dup hx hb dX4_init_19 rfl ?_
  refine gI hx hb hml hts hown hB hE hS kwX4_18 (c_dini E fd .null H4 hD3 hg4) (Nat.le_of_ble_eq_true rfl) rfl hl.1 rfl (Nat.le_of_ble_eq_true rfl) (by omega) (by omega) dX4_init_20 (fun H5 L5 hG hz5 hE hS => ?_)
  obtain ⟨hD3, hL3, hG2, hz9_5⟩ := hG
  obtain ⟨fdl, elfd⟩ : ∃ z, z = H4.size := ⟨_, rfl⟩
  rw [← elfd] at hD3 hL3
  have hO := hG2.at hO (by omega)
  have hQ := hG2.at hQ (by omega)
  have hD1 := hG2.at hD1 (by omega)
  have hL1 := hG2.at hL1 (by omega)
  have hD2 := hG2.at hD2 (by omega)
  have hL2 := hG2.at hL2 (by omega)
  have hF := hF.tr hG2 (fun z hz h => by omega)
  refine pfF hx hb hts hown hin hE hS pkX4_19 rfl rfl hO hg rfl rfl (Nat.le_of_ble_eq_true rfl) dX4_init_23 (fun H6 L6 hO6 hz6 hq6 hE hS => ?_)
  have hO : OB E 5 [.ref q, .ref fd, .null] x H6 := hO6
  have hQ := pk2 hQ hq6 (by omega)
  have hD1 := pk2 hD1 hq6 (by omega)
  have hL1 := pk2 hL1 hq6 (by omega)
  have hD2 := pk2 hD2 hq6 (by omega)
  have hL2 := pk2 hL2 hq6 (by omega)
  have hD3 := pk2 hD3 hq6 (by omega)
  have hL3 := pk2 hL3 hq6 (by omega)
  have hF := hF.put hz6 hq6 (fun _ => rfl)
  refine lv_aload_n hx hb dX4_init_26 rfl (lv_at hl 0 rfl) ?_
  refine nw (fs := [.int 0, .null, .int 0]) hx hb hts hown hE hS nkX4_23 (fun j hj => by rcases (show j = 0 ∨ j = 1 ∨ j = 2 by omega) with rfl | rfl | rfl <;> rfl) (by omega) (by omega) dX4_init_27 (fun bk H7 ea7 hB5 hz7 hq7 hE hS hg7 => ?_)
  have hO := pk3 hO hq7
  have hQ := pk3 hQ hq7
  have hD1 := pk3 hD1 hq7
  have hL1 := pk3 hL1 hq7
  have hD2 := pk3 hD2 hq7
  have hL2 := pk3 hL2 hq7
  have hD3 := pk3 hD3 hq7
  have hL3 := pk3 hL3 hq7
  have hF := hF.new (by omega) hq7
  refine lv_dup hx hb dX4_init_30 rfl ?_
  refine gI hx hb hml hts hown hB hE hS kwX4_25 (c_lini E bk .null 0 H7 hB5 hg7) (Nat.le_of_ble_eq_true rfl) rfl hl.1 rfl (Nat.le_of_ble_eq_true rfl) (by omega) (by omega) dX4_init_31 (fun H8 L8 hG hz8 hE hS => ?_)
  obtain ⟨hB5, hG2, hz9_8⟩ := hG
  have hO := hG2.at hO (by omega)
  have hQ := hG2.at hQ (by omega)
  have hD1 := hG2.at hD1 (by omega)
  have hL1 := hG2.at hL1 (by omega)
  have hD2 := hG2.at hD2 (by omega)
  have hL2 := hG2.at hL2 (by omega)
  have hD3 := hG2.at hD3 (by omega)
  have hL3 := hG2.at hL3 (by omega)
  have hF := hF.tr hG2 (fun z hz h => by omega)
  refine pfF hx hb hts hown hin hE hS pkX4_26 rfl rfl hO hg rfl rfl (Nat.le_of_ble_eq_true rfl) dX4_init_34 (fun H9 L9 hO9 hz9 hq9 hE hS => ?_)
  have hO : OB E 5 [.ref q, .ref fd, .ref bk] x H9 := hO9
  have hQ := pk2 hQ hq9 (by omega)
  have hD1 := pk2 hD1 hq9 (by omega)
  have hL1 := pk2 hL1 hq9 (by omega)
  have hD2 := pk2 hD2 hq9 (by omega)
  have hL2 := pk2 hL2 hq9 (by omega)
  have hD3 := pk2 hD3 hq9 (by omega)
  have hL3 := pk2 hL3 hq9 (by omega)
  have hB5 := pk2 hB5 hq9 (by omega)
  have hF := hF.put hz9 hq9 (fun _ => rfl)
  have hEF := hE.2.2.2.1
  have hgB : eB E ≤ H.size := by rw [← hH]; exact hB
  refine cU hx hb hr hlk hB hS (by omega) (by omega) ⟨rfl, fun z => if z < H.size then ow z else if z = q then (0, 1) else if z = a1 then (2, 0) else if z = a1 + 1 then (2, 1) else if z = a1 + 2 then (3, 0) else if z = a1 + 3 then (3, 1) else if z = fd then (1, 0) else if z = fdl then (1, 1) else (5, 1), fun z h9 => if_pos h9, fun z h9 => ?_, ⟨q, fd, bk, fun _ => 0, hO, ⟨a1, a1 + 2, hQ, DRo.nil hD1 hL1 hEF ?_ (by omega) ?_ (by omega), DRo.nil hD2 hL2 hEF ?_ (by omega) ?_ (by omega), ?_, by omega⟩, DRo.nil hD3 hL3 hEF ?_ (by omega) ?_ (by omega), LRo.nil hB5 hEF ?_ (by omega), fun t tr ht => by simp at ht, ?_, hg⟩, ⟨hF.1, fun z h9 h8 => hF.2 z h9 (fun e => h8 (by have e : z = x := e; show (ow z).1 ≠ 4; rw [e, hox]; decide))⟩⟩ dX4_init_37
  · (try dsimp only)
    rw [if_neg (Nat.not_lt.mpr h9)]
    repeat (split; · (try decide))
    decide
  · (try dsimp only)
    rw [if_neg (by omega), if_neg (by omega), if_neg (by omega), if_pos rfl]
  · (try dsimp only)
    rw [if_neg (by omega), if_neg (by omega), if_pos rfl]
  · (try dsimp only)
    rw [if_neg (by omega), if_neg (by omega), if_neg (by omega), if_neg (by omega), if_neg (by omega), if_pos rfl]
  · (try dsimp only)
    rw [if_neg (by omega), if_neg (by omega), if_neg (by omega), if_neg (by omega), if_pos rfl]
  · (try dsimp only)
    rw [if_neg (by omega), if_pos rfl]
  · (try dsimp only)
    rw [if_neg (by omega), if_neg (by omega), if_neg (by omega), if_neg (by omega), if_neg (by omega), if_neg (by omega), if_neg (by omega), if_pos rfl]
  · (try dsimp only)
    rw [if_neg (by omega), if_neg (by omega), if_neg (by omega), if_neg (by omega), if_neg (by omega), if_neg (by omega), if_pos rfl]
  · (try dsimp only)
    rw [if_neg (by omega), if_neg (by omega), if_neg (by omega), if_neg (by omega), if_neg (by omega), if_neg (by omega), if_neg (by omega), if_neg (by omega)]
  · (try dsimp only)
    rw [if_pos hwl]; exact hox
end
section
theorem i32_lt4 {v : Int32} : v < 4 ↔ v ≤ 3 := by
  rw [Int32.lt_iff_toInt_lt, Int32.le_iff_toInt_le]
  show v.toInt < 4 ↔ v.toInt ≤ 3
  omega
theorem min_sw {a b : Int32} : (if b < a then b else a) = (if a < b then a else b) := by
  by_cases h : b < a
  · rw [if_pos h, if_neg (fun q => absurd (Int32.lt_trans h q) Int32.lt_irrefl)]
  · by_cases h2 : a < b
    · rw [if_neg h, if_pos h2]
    · rw [if_neg h, if_neg h2]
      exact Int32.le_antisymm (Int32.not_lt.mp h) (Int32.not_lt.mp h2)
set_option maxRecDepth 100000 in
set_option maxHeartbeats 4000000 in
/-- checkRange -/
theorem c_crange (E : ET) (v lo hi : Int32) (H : Heap) : XCon E yX4_checkRange cX4_checkRange 3 (none : Option FieldType) 6 1 6 [.int v, .int lo, .int hi] H (fun r H' => inB v lo hi = true ∧ r = none ∧ H' = H) (fun X => X = xA ∧ inB v lo hi = false) := by
  refine XCon.of (C := RX4) rfl (by decide +kernel) (Nat.le_of_ble_eq_true rfl) ?_
  intro p e s m below meth co ls hx hb hr hlk hml hown hts hxt hE hH hS hl
  have hl : lv_has ls 3 [(0, .int v), (1, .int lo), (2, .int hi)] := hl
  have hB : eB E ≤ s.heap.size := by rw [hH]; exact hE.2.1
  have hE0 : EV E s s.heap := by rw [hH]; exact hE
  refine lv_iload_n hx hb dX4_checkRange_0 rfl (lv_at hl 0 rfl) ?_
  refine lv_iload_n hx hb dX4_checkRange_1 rfl (lv_at hl 1 rfl) ?_
  refine lv_icmp_lt (tgt := 10) hx hb dX4_checkRange_2 (by decide) (fun c1 => ?_) (fun c1 => ?_)
  · exact tS (is := 178) (text := "an argument is out of range") hx hb hml hlk hxt hts hown hE0 hH hS txA (by decide) (⟨rfl, by simp [inB, Int32.not_le.mpr c1]⟩) hl.1 (Nat.le_of_ble_eq_true rfl) (Nat.le_of_ble_eq_true rfl) (by omega) (by omega) dX4_checkRange_10 dX4_checkRange_13 dX4_checkRange_14 dX4_checkRange_16 dX4_checkRange_19
  · refine lv_iload_n hx hb dX4_checkRange_5 rfl (lv_at hl 0 rfl) ?_
    refine lv_iload_n hx hb dX4_checkRange_6 rfl (lv_at hl 2 rfl) ?_
    refine lv_icmp_le (tgt := 20) hx hb dX4_checkRange_7 (by decide) (fun c2 => ?_) (fun c2 => ?_)
    · exact vx_ret (cU hx hb hr hlk hB hS (by omega) (by omega) (⟨by simp [inB, Int32.not_lt.mp c1, c2], rfl, rfl⟩) dX4_checkRange_20)
    · exact tS (is := 178) (text := "an argument is out of range") hx hb hml hlk hxt hts hown hE0 hH hS txA (by decide) (⟨rfl, by simp [inB, c2]⟩) hl.1 (Nat.le_of_ble_eq_true rfl) (Nat.le_of_ble_eq_true rfl) (by omega) (by omega) dX4_checkRange_10 dX4_checkRange_13 dX4_checkRange_14 dX4_checkRange_16 dX4_checkRange_19

set_option maxRecDepth 100000 in
set_option maxHeartbeats 4000000 in
/-- checkParty -/
theorem c_cparty (E : ET) (v : Int32) (H : Heap) : XCon E yX4_checkParty cX4_checkParty 1 (none : Option FieldType) 6 1 6 [.int v] H (fun r H' => inB v 0 3 = true ∧ r = none ∧ H' = H) (fun X => X = xI ∧ inB v 0 3 = false) := by
  refine XCon.of (C := RX4) rfl (by decide +kernel) (Nat.le_of_ble_eq_true rfl) ?_
  intro p e s m below meth co ls hx hb hr hlk hml hown hts hxt hE hH hS hl
  have hl : lv_has ls 1 [(0, .int v)] := hl
  have hB : eB E ≤ s.heap.size := by rw [hH]; exact hE.2.1
  have hE0 : EV E s s.heap := by rw [hH]; exact hE
  refine lv_iload_n hx hb dX4_checkParty_0 rfl (lv_at hl 0 rfl) ?_
  refine lv_if_lt (tgt := 9) hx hb dX4_checkParty_1 (by decide) (fun c1 => ?_) (fun c1 => ?_)
  · exact tS (is := 186) (text := "no such party") hx hb hml hlk hxt hts hown hE0 hH hS txI (by decide) (⟨rfl, by simp [inB, Int32.not_le.mpr c1]⟩) hl.1 (Nat.le_of_ble_eq_true rfl) (Nat.le_of_ble_eq_true rfl) (by omega) (by omega) dX4_checkParty_9 dX4_checkParty_12 dX4_checkParty_13 dX4_checkParty_15 dX4_checkParty_18
  · refine lv_iload_n hx hb dX4_checkParty_4 rfl (lv_at hl 0 rfl) ?_
    refine lv_iconst (v := 4) hx hb dX4_checkParty_5 (by decide) ?_
    refine lv_icmp_lt (tgt := 19) hx hb dX4_checkParty_6 (by decide) (fun c2 => ?_) (fun c2 => ?_)
    · exact vx_ret (cU hx hb hr hlk hB hS (by omega) (by omega) (⟨by simp [inB, Int32.not_lt.mp c1, i32_lt4.mp c2], rfl, rfl⟩) dX4_checkParty_19)
    · have hc9 : ¬ v ≤ 3 := fun q => c2 (i32_lt4.mpr q)
      exact tS (is := 186) (text := "no such party") hx hb hml hlk hxt hts hown hE0 hH hS txI (by decide) (⟨rfl, by simp [inB, hc9]⟩) hl.1 (Nat.le_of_ble_eq_true rfl) (Nat.le_of_ble_eq_true rfl) (by omega) (by omega) dX4_checkParty_9 dX4_checkParty_12 dX4_checkParty_13 dX4_checkParty_15 dX4_checkParty_18

set_option maxRecDepth 100000 in
set_option maxHeartbeats 4000000 in
/-- checkSpan -/
theorem c_cspan (E : ET) (d1 d2 : Int32) (H : Heap) : XCon E yX4_checkSpan cX4_checkSpan 2 (none : Option FieldType) 7 2 12 [.int d1, .int d2] H (fun r H' => (inB d1 0 3100 = true ∧ inB d2 d1 (if d1 + 400 < 3100 then d1 + 400 else 3100) = true) ∧ r = none ∧ H' = H) (fun X => X = xA ∧ ¬ (inB d1 0 3100 = true ∧ inB d2 d1 (if d1 + 400 < 3100 then d1 + 400 else 3100) = true)) := by
  refine XCon.of (C := RX4) rfl (by decide +kernel) (Nat.le_of_ble_eq_true rfl) ?_
  intro p e s m below meth co ls hx hb hr hlk hml hown hts hxt hE hH hS hl
  have hl : lv_has ls 2 [(0, .int d1), (1, .int d2)] := hl
  have hB : eB E ≤ s.heap.size := by rw [hH]; exact hE.2.1
  have hE0 : EV E s s.heap := by rw [hH]; exact hE
  refine lv_iload_n hx hb dX4_checkSpan_0 rfl (lv_at hl 0 rfl) ?_
  refine lv_iconst (v := 0) hx hb dX4_checkSpan_1 (by decide) ?_
  refine lv_sipush (v := 3100) hx hb dX4_checkSpan_2 (by decide) ?_
  refine xSc hx hb hml hlk hxt hts hown hB hE hH hS kwX4_37 (c_crange E d1 0 3100 H) (fun X h => ⟨h.1, fun q => by rw [h.2] at q; cases q.1⟩) (Nat.le_of_ble_eq_true rfl) rfl hl.1 rfl (Nat.le_of_ble_eq_true rfl) (by omega) (by omega) dX4_checkSpan_5 (fun v1 H1 L1 ho1 hz1 hE hS => ?_)
  obtain ⟨g1, hv1, hh1⟩ := ho1
  subst hv1
  have hh1 := hh1.symm
  subst hh1
  dsimp only [Option.toList, List.nil_append, List.cons_append]
  refine lv_iload_n hx hb dX4_checkSpan_8 rfl (lv_at hl 1 rfl) ?_
  refine lv_iload_n hx hb dX4_checkSpan_9 rfl (lv_at hl 0 rfl) ?_
  refine lv_iload_n hx hb dX4_checkSpan_10 rfl (lv_at hl 0 rfl) ?_
  refine lv_sipush (v := 400) hx hb dX4_checkSpan_11 (by decide) ?_
  refine lv_iadd hx hb dX4_checkSpan_14 ?_
  refine lv_sipush (v := 3100) hx hb dX4_checkSpan_15 (by decide) ?_
  refine va_mmin hx hb (by rw [hml]; exact hl.1.symm) hown (hts _ qw2_233) (hts _ qw2_61) (hts _ qw1_14) (hts _ qw2_62) (Nat.le_of_ble_eq_true rfl) (by show _ ≤ 280; simp [Value.category]) (by show 0 + 1 ≤ 2; omega) (by show 0 + 6 ≤ 12; omega) dX4_checkSpan_18 ?_
  obtain ⟨mi, hmi⟩ : ∃ z, z = (if d1 + 400 < 3100 then d1 + 400 else (3100 : Int32)) := ⟨_, rfl⟩
  try rw [show (if (3100 : Int32) < d1 + 400 then (3100 : Int32) else d1 + 400) = (if d1 + 400 < 3100 then d1 + 400 else 3100) from min_sw]
  rw [← hmi]
  refine xSc hx hb hml hlk hxt hts hown hB hE hH hS kwX4_37 (c_crange E d2 d1 mi H) (fun X h => ⟨h.1, fun q => absurd (h.2.symm.trans q.2) (by decide)⟩) (Nat.le_of_ble_eq_true rfl) rfl hl.1 rfl (Nat.le_of_ble_eq_true rfl) (by omega) (by omega) dX4_checkSpan_21 (fun v2 H2 L2 ho2 hz2 hE hS => ?_)
  obtain ⟨g2, hv2, hh2⟩ := ho2
  subst hv2
  have hh2 := hh2.symm
  subst hh2
  dsimp only [Option.toList, List.nil_append, List.cons_append]
  exact vx_ret (cU hx hb hr hlk hB hS (by omega) (by omega) (⟨⟨g1, g2⟩, rfl, rfl⟩) dX4_checkSpan_24)

set_option maxRecDepth 100000 in
set_option maxHeartbeats 4000000 in
/-- swapAt -/
theorem c_swapAt (E : ET) (ow : Nat → Nat × Nat) (x q fd bk : Nat) (wa : Nat → Nat) (ts : List TR) (t : Int32) (H : Heap) (hO : OB E 5 [.ref q, .ref fd, .ref bk] x H) (hL : LR E bk ts.length wa H) (hn : ts.length ≤ 10) (hW : ∀ i, i < ts.length → ∃ fs, OB E 4 fs (wa i) H) : XCon E yX4_swapAt cX4_swapAt 2 (some (FieldType.object "Resetline$Swap")) 6 1 6 [.ref x, .int t] H (fun r H' => ∃ i, i < ts.length ∧ t = nI i ∧ r = some (.ref (wa i)) ∧ H' = H) (fun X => X = xI ∧ ¬ ∃ i, i < ts.length ∧ t = nI i) := by
  refine XCon.of (C := RX4) rfl (by decide +kernel) (Nat.le_of_ble_eq_true rfl) ?_
  intro p e s m below meth co ls hx hb hr hlk hml hown hts hxt hE hH hS hl
  have hl : lv_has ls 2 [(0, .ref x), (1, .int t)] := hl
  have hB : eB E ≤ s.heap.size := by rw [hH]; exact hE.2.1
  have hE0 : EV E s s.heap := by rw [hH]; exact hE
  obtain ⟨fs0, hOb, hcl⟩ := hL.ob
  refine lv_iload_n hx hb dX4_swapAt_0 rfl (lv_at hl 1 rfl) ?_
  refine lv_if_lt (tgt := 15) hx hb dX4_swapAt_1 (by decide) (fun c1 => ?_) (fun c1 => ?_)
  · exact tS (is := 188) (text := "no such trade") hx hb hml hlk hxt hts hown hE0 hH hS txI (by decide) (⟨rfl, fun ⟨i, h1, h2⟩ => by rw [h2] at c1; exact nI_pos (by omega) c1⟩) hl.1 (Nat.le_of_ble_eq_true rfl) (Nat.le_of_ble_eq_true rfl) (by omega) (by omega) dX4_swapAt_15 dX4_swapAt_18 dX4_swapAt_19 dX4_swapAt_21 dX4_swapAt_24
  · refine lv_iload_n hx hb dX4_swapAt_4 rfl (lv_at hl 1 rfl) ?_
    refine lv_aload_n hx hb dX4_swapAt_5 rfl (lv_at hl 0 rfl) ?_
    refine gf hx hb hts hown hE lkX4_26 hO rfl dX4_swapAt_6 ?_
    refine pV hx hb hml hts hown hE kwX4_85 (c_size E bk ts.length wa H hL) hOb rfl (Nat.le_of_ble_eq_true rfl) rfl hl.1 rfl (Nat.le_of_ble_eq_true rfl) (by omega) (by omega) dX4_swapAt_9 ?_
    obtain ⟨j, hj, ej⟩ := nI_of c1
    subst ej
    refine lv_icmp_lt (tgt := 25) hx hb dX4_swapAt_12 (by decide) (fun c2 => ?_) (fun c2 => ?_)
    · have hlt : j < ts.length := (by
        rcases Nat.lt_or_ge j ts.length with q9 | q9
        · exact q9
        · exact absurd c2 (nI_nlt q9 hj))
      refine lv_aload_n hx hb dX4_swapAt_25 rfl (lv_at hl 0 rfl) ?_
      refine gf hx hb hts hown hE lkX4_26 hO rfl dX4_swapAt_26 ?_
      refine lv_iload_n hx hb dX4_swapAt_29 rfl (lv_at hl 1 rfl) ?_
      refine pV hx hb hml hts hown hE kwX4_134 (c_get E bk ts.length j wa H hL hlt) hOb rfl (Nat.le_of_ble_eq_true rfl) rfl hl.1 rfl (Nat.le_of_ble_eq_true rfl) (by omega) (by omega) dX4_swapAt_30 ?_
      obtain ⟨fsw, hw⟩ := hW j hlt
      refine cst hx hb hts hown hE qw2_74 hw rfl dX4_swapAt_33 ?_
      exact vx_ret (cR hx hb hr (Or.inl ⟨_, rfl⟩) (Or.inr ⟨_, rfl⟩) hlk hB hS (by omega) (by omega) (⟨j, hlt, rfl, rfl, rfl⟩) dX4_swapAt_36)
    · exact tS (is := 188) (text := "no such trade") hx hb hml hlk hxt hts hown hE0 hH hS txI (by decide) (⟨rfl, fun ⟨i, h1, h2⟩ => by have := (nI_eq hj (by omega)).mp h2; subst this; exact (c2 (nI_lt h1 (by omega)))⟩) hl.1 (Nat.le_of_ble_eq_true rfl) (Nat.le_of_ble_eq_true rfl) (by omega) (by omega) dX4_swapAt_15 dX4_swapAt_18 dX4_swapAt_19 dX4_swapAt_21 dX4_swapAt_24
end
section
def np (tr : TR) : Nat := (tr.1 6).toNatClampNeg
def trd (ts : List TR) (t : Int32) : Option TR := if t < 0 then none else ts[t.toNatClampNeg]?
def prd (tr : TR) (k : Int32) : Option Nat := if k < 0 then none else if k.toNatClampNeg < np tr then some k.toNatClampNeg else none
theorem trd_nI {ts : List TR} {i : Nat} (h : i < 2 ^ 31) : trd ts (nI i) = ts[i]? := by
  unfold trd
  rw [if_neg (nI_pos h), nI_clamp h]
theorem trd_no {ts : List TR} {t : Int32} (h : ¬ ∃ i, i < ts.length ∧ t = nI i) : trd ts t = none := by
  unfold trd
  by_cases c : t < 0
  · rw [if_pos c]
  · rw [if_neg c]
    obtain ⟨j, hj, e⟩ := nI_of c
    subst e
    rw [nI_clamp hj]
    exact List.getElem?_eq_none (Nat.le_of_not_lt (fun q => h ⟨j, q, rfl⟩))
theorem prd_nI {tr : TR} {j : Nat} (h : j < 2 ^ 31) (hn : j < np tr) : prd tr (nI j) = some j := by
  unfold prd
  rw [if_neg (nI_pos h), nI_clamp h, if_pos hn]
theorem prd_neg {tr : TR} {k : Int32} (h : k < 0) : prd tr k = none := if_pos h
theorem prd_big {tr : TR} {j : Nat} (h : j < 2 ^ 31) (hn : np tr ≤ j) : prd tr (nI j) = none := by
  unfold prd
  rw [if_neg (nI_pos h), nI_clamp h, if_neg (Nat.not_lt.mpr hn)]
theorem SRo.SRx {E : ET} {ow : Nat → Nat × Nat} {L w : Nat} {tr : TR} {bf : Nat → Int32} {H : Heap} (h : SRo E ow L w tr bf H) (hb : tr.2.1.length ≤ 5000) (hh : tr.2.2.length ≤ 5000) : ∃ db dh bd, SRx E w tr.1 db dh bd bf tr.2.1 tr.2.2 H := by
  obtain ⟨db, dh, bd, h1, h2, h3, h4, -⟩ := h
  exact ⟨db, dh, bd, h1, h2.DR (by omega), h3.DR (by omega), h4⟩
/-- the breaks of each trade are few -/
def BL (ts : List TR) : Prop := ∀ tr ∈ ts, tr.2.1.length ≤ 5000
/-- what the reading methods of the office stand on -/
theorem XR.rd {E : ET} {ow : Nat → Nat × Nat} {x : Nat} {h0 h1 fx : Dy} {ts : List TR} {H : Heap} (h : XR E ow x h0 h1 fx ts H) (hV : SV h0 h1 fx ts) (hK : BL ts) : ∃ (q fd bk : Nat) (wa : Nat → Nat), OB E 5 [.ref q, .ref fd, .ref bk] x H ∧ CR E q h0 h1 H ∧ DR E fd fx H ∧ LR E bk ts.length wa H ∧ (∀ t tr, ts[t]? = some tr → ∃ db dh bd, SRx E (wa t) tr.1 db dh bd (bfC h0 h1 tr.1) tr.2.1 tr.2.2 H) := by
  obtain ⟨q, fd, bk, wa, h1, h2, h3, h4, h5, h6, h7⟩ := h
  obtain ⟨v1, v2, v3, v4, v5, v6, v7, v8, v9⟩ := hV
  refine ⟨q, fd, bk, wa, h1, h2.CR v1 v2, h3.DR (by omega), h4.LR (by omega), fun t tr ht => (h5 t tr ht).SRx (hK tr (List.mem_of_getElem? ht)) ?_⟩
  obtain ⟨pa, lo, f, le, n, -, -, -, -, -, -, -, -, -, -, -, -, -, -, -, -, -, hh⟩ := v9 tr (List.mem_of_getElem? ht)
  omega
theorem TV.n {tr : TR} (h : TV tr) : tr.1 6 = nI (np tr) ∧ 1 ≤ np tr ∧ np tr ≤ 10 := by
  obtain ⟨pa, lo, f, le, n, v1, v2, v3, v4, v5, v6, v7, v8, t0, t1, t2, t4, t5, t6, -⟩ := h
  have e : np tr = n := by unfold np; rw [t6, nI_clamp (by omega)]
  rw [e]
  exact ⟨t6, v7, v8⟩
theorem TV.w {tr : TR} (h : TV tr) : tr.1 9 = 0 ∨ tr.1 9 = 1 ∨ tr.1 9 = 2 := by
  obtain ⟨pa, lo, f, le, n, v1, v2, v3, v4, v5, v6, v7, v8, t0, t1, t2, t4, t5, t6, t8, t9, -⟩ := h
  exact t9
theorem inB_nI {v hi : Int32} {n : Nat} (h : inB v 0 hi = true) (hn : hi = nI n := by decide) (hb : n < 2 ^ 31 := by decide) : ∃ j, j ≤ n ∧ v = nI j := by
  unfold inB at h
  rw [Bool.and_eq_true, decide_eq_true_eq, decide_eq_true_eq] at h
  obtain ⟨j, hj, e⟩ := nI_of (Int32.not_lt.mpr h.1)
  refine ⟨j, ?_, e⟩
  rw [e, hn] at h
  exact (nI_leI hj hb).mp h.2
set_option maxRecDepth 100000 in
set_option maxHeartbeats 4000000 in
/-- swapWithPeriod -/
theorem c_swp (E : ET) (ow : Nat → Nat × Nat) (x : Nat) (h0 h1 fx : Dy) (ts : List TR) (q fd bk : Nat) (wa : Nat → Nat) (t k : Int32) (H : Heap) (hO : OB E 5 [.ref q, .ref fd, .ref bk] x H) (hL : LR E bk ts.length wa H) (hT : ∀ t tr, ts[t]? = some tr → ∃ db dh bd, SRx E (wa t) tr.1 db dh bd (bfC h0 h1 tr.1) tr.2.1 tr.2.2 H) (hV : SV h0 h1 fx ts) : XCon E yX4_swapWithPeriod cX4_swapWithPeriod 4 (some (FieldType.object "Resetline$Swap")) 7 2 12 [.ref x, .int t, .int k] H (fun r H' => ∃ i tr j, (ts[i]? = some tr ∧ trd ts t = some tr ∧ prd tr k = some j ∧ k = nI j ∧ j < np tr) ∧ r = some (.ref (wa i)) ∧ H' = H) (fun X => X = xI ∧ (trd ts t).bind (fun tr => prd tr k) = none) := by
  refine XCon.of (C := RX4) rfl (by decide +kernel) (Nat.le_of_ble_eq_true rfl) ?_
  intro p e s m below meth co ls hx hb hr hlk hml hown hts hxt hE hH hS hl
  have hl : lv_has ls 4 [(0, .ref x), (1, .int t), (2, .int k)] := hl
  have hB : eB E ≤ s.heap.size := by rw [hH]; exact hE.2.1
  have hE0 : EV E s s.heap := by rw [hH]; exact hE
  have htn := hV.2.2.2.2.2.2.2.1
  refine lv_aload_n hx hb dX4_swapWithPeriod_0 rfl (lv_at hl 0 rfl) ?_
  refine lv_iload_n hx hb dX4_swapWithPeriod_1 rfl (lv_at hl 1 rfl) ?_
  refine xVc hx hb hml hlk hxt hts hown hB hE hH hS kwX4_102 (c_swapAt E ow x q fd bk wa ts t H hO hL htn (fun i hi => by obtain ⟨tr, ht⟩ := getq hi; obtain ⟨db, dh, bd, h9⟩ := hT i tr ht; exact ⟨_, h9.1⟩)) (fun X h => ⟨h.1, by rw [trd_no h.2]; rfl⟩) hO rfl (Nat.le_of_ble_eq_true rfl) rfl hl.1 rfl (Nat.le_of_ble_eq_true rfl) (by omega) (by omega) dX4_swapWithPeriod_2 (fun v1 H1 L1 ho1 hz1 hE hS => ?_)
  obtain ⟨i, hi, et, hv1, hh1⟩ := ho1
  subst hv1
  have hh1 := hh1.symm
  subst hh1
  dsimp only [Option.toList, List.nil_append, List.cons_append]
  obtain ⟨tr, ht⟩ := getq hi
  obtain ⟨db, dh, bd, hW⟩ := hT i tr ht
  have hW0 := hW.1
  obtain ⟨n6, n1, n10⟩ := (hV.2.2.2.2.2.2.2.2 tr (List.mem_of_getElem? ht)).n
  have etr : trd ts t = some tr := by rw [et, trd_nI (by omega)]; exact ht
  refine lv_astore_n (lv' := [(3, .ref (wa i)), (0, .ref x), (1, .int t), (2, .int k)]) hx hb dX4_swapWithPeriod_5 rfl hl (by decide) rfl (fun ls hl => ?_)
  refine lv_iload_n hx hb dX4_swapWithPeriod_6 rfl (lv_at hl 3 rfl) ?_
  refine lv_if_lt (tgt := 18) hx hb dX4_swapWithPeriod_7 (by decide) (fun c1 => ?_) (fun c1 => ?_)
  · exact tS (is := 193) (text := "no such period") hx hb hml hlk hxt hts hown hE0 hH hS txI (by decide) (⟨rfl, by rw [etr]; exact prd_neg c1⟩) hl.1 (Nat.le_of_ble_eq_true rfl) (Nat.le_of_ble_eq_true rfl) (by omega) (by omega) dX4_swapWithPeriod_18 dX4_swapWithPeriod_21 dX4_swapWithPeriod_22 dX4_swapWithPeriod_24 dX4_swapWithPeriod_27
  · refine lv_iload_n hx hb dX4_swapWithPeriod_10 rfl (lv_at hl 3 rfl) ?_
    refine lv_aload_n hx hb dX4_swapWithPeriod_11 rfl (lv_at hl 0 rfl) ?_
    refine gf hx hb hts hown hE lkX4_190 hW0 rfl dX4_swapWithPeriod_12 ?_
    rw [n6]
    obtain ⟨j, hj, ej⟩ := nI_of c1
    subst ej
    refine lv_icmp_lt (tgt := 28) hx hb dX4_swapWithPeriod_15 (by decide) (fun c2 => ?_) (fun c2 => ?_)
    · have hlt : j < np tr := by
        rcases Nat.lt_or_ge j (np tr) with q9 | q9
        · exact q9
        · exact absurd c2 (nI_nlt q9 hj)
      refine lv_aload_n hx hb dX4_swapWithPeriod_28 rfl (lv_at hl 0 rfl) ?_
      exact vx_ret (cR hx hb hr (Or.inl ⟨_, rfl⟩) (Or.inr ⟨_, rfl⟩) hlk hB hS (by omega) (by omega) (⟨i, tr, j, ⟨ht, etr, prd_nI hj hlt, rfl, hlt⟩, rfl, rfl⟩) dX4_swapWithPeriod_29)
    · have hge : np tr ≤ j := by
        rcases Nat.lt_or_ge j (np tr) with q9 | q9
        · exact absurd (nI_lt q9 (by omega)) c2
        · exact q9
      exact tS (is := 193) (text := "no such period") hx hb hml hlk hxt hts hown hE0 hH hS txI (by decide) (⟨rfl, by rw [etr]; exact prd_big hj hge⟩) hl.1 (Nat.le_of_ble_eq_true rfl) (Nat.le_of_ble_eq_true rfl) (by omega) (by omega) dX4_swapWithPeriod_18 dX4_swapWithPeriod_21 dX4_swapWithPeriod_22 dX4_swapWithPeriod_24 dX4_swapWithPeriod_27

set_option maxRecDepth 100000 in
set_option maxHeartbeats 4000000 in
/-- start -/
theorem c_xstart (E : ET) (ow : Nat → Nat × Nat) (x : Nat) (h0 h1 fx : Dy) (ts : List TR) (t k : Int32) (H : Heap) (hX : XR E ow x h0 h1 fx ts H) (hV : SV h0 h1 fx ts) (hK : BL ts)  : XCon E yX4_start cX4_start 3 (some FieldType.int) 10 2 12 [.ref x, .int t, .int k] H (fun r H' => (∃ tr j, (trd ts t).bind (fun tr => (prd tr k).map (fun j => (tr, j))) = some (tr, j) ∧ r = some (.int (bfC h0 h1 tr.1 j))) ∧ H' = H) (fun X => X = xI ∧ (trd ts t).bind (fun tr => prd tr k) = none) := by
  refine XCon.of (C := RX4) rfl (by decide +kernel) (Nat.le_of_ble_eq_true rfl) ?_
  intro p e s m below meth co ls hx hb hr hlk hml hown hts hxt hE hH hS hl
  have hl : lv_has ls 3 [(0, .ref x), (1, .int t), (2, .int k)] := hl
  have hB : eB E ≤ s.heap.size := by rw [hH]; exact hE.2.1
  have hE0 : EV E s s.heap := by rw [hH]; exact hE
  obtain ⟨q, fd, bk, wa, hO, hC, hD, hL, hT⟩ := hX.rd hV hK
  refine lv_aload_n hx hb dX4_start_0 rfl (lv_at hl 0 rfl) ?_
  refine lv_iload_n hx hb dX4_start_1 rfl (lv_at hl 1 rfl) ?_
  refine lv_iload_n hx hb dX4_start_2 rfl (lv_at hl 2 rfl) ?_
  refine xVc hx hb hml hlk hxt hts hown hB hE hH hS kwX4_142 (c_swp E ow x h0 h1 fx ts q fd bk wa t k H hO hL hT hV) (fun X h => h) hO rfl (Nat.le_of_ble_eq_true rfl) rfl hl.1 rfl (Nat.le_of_ble_eq_true rfl) (by omega) (by omega) dX4_start_3 (fun v1 H1 L1 ho1 hz1 hE hS => ?_)
  obtain ⟨i, tr, j, ⟨ht, etr, epr, ek, hj⟩, hv1, hh1⟩ := ho1
  subst hv1
  have hh1 := hh1.symm
  subst hh1
  dsimp only [Option.toList, List.nil_append, List.cons_append]
  subst ek
  obtain ⟨db, dh, bd, hW⟩ := hT i tr ht
  have hW0 := hW.1
  obtain ⟨n6, n1, n10⟩ := (hV.2.2.2.2.2.2.2.2 tr (List.mem_of_getElem? ht)).n
  have h9 := (hV.2.2.2.2.2.2.2.2 tr (List.mem_of_getElem? ht)).w
  refine lv_iload_n hx hb dX4_start_6 rfl (lv_at hl 2 rfl) ?_
  refine pV hx hb hml hts hown hE kwX4_146 (c_start E (wa i) tr.1 db dh bd (bfC h0 h1 tr.1) tr.2.1 tr.2.2 j H (by omega) hW) hW0 rfl (Nat.le_of_ble_eq_true rfl) rfl hl.1 rfl (Nat.le_of_ble_eq_true rfl) (by omega) (by omega) dX4_start_7 ?_
  exact vx_ret (cI hx hb hr hlk hB hS (by omega) (by omega) (⟨⟨tr, j, by rw [etr]; simp [epr], rfl⟩, rfl⟩) dX4_start_10)

set_option maxRecDepth 100000 in
set_option maxHeartbeats 4000000 in
/-- end -/
theorem c_xend (E : ET) (ow : Nat → Nat × Nat) (x : Nat) (h0 h1 fx : Dy) (ts : List TR) (t k : Int32) (H : Heap) (hX : XR E ow x h0 h1 fx ts H) (hV : SV h0 h1 fx ts) (hK : BL ts)  : XCon E yX4_end cX4_end 3 (some FieldType.int) 10 2 12 [.ref x, .int t, .int k] H (fun r H' => (∃ tr j, (trd ts t).bind (fun tr => (prd tr k).map (fun j => (tr, j))) = some (tr, j) ∧ r = some (.int (bfC h0 h1 tr.1 (j + 1)))) ∧ H' = H) (fun X => X = xI ∧ (trd ts t).bind (fun tr => prd tr k) = none) := by
  refine XCon.of (C := RX4) rfl (by decide +kernel) (Nat.le_of_ble_eq_true rfl) ?_
  intro p e s m below meth co ls hx hb hr hlk hml hown hts hxt hE hH hS hl
  have hl : lv_has ls 3 [(0, .ref x), (1, .int t), (2, .int k)] := hl
  have hB : eB E ≤ s.heap.size := by rw [hH]; exact hE.2.1
  have hE0 : EV E s s.heap := by rw [hH]; exact hE
  obtain ⟨q, fd, bk, wa, hO, hC, hD, hL, hT⟩ := hX.rd hV hK
  refine lv_aload_n hx hb dX4_end_0 rfl (lv_at hl 0 rfl) ?_
  refine lv_iload_n hx hb dX4_end_1 rfl (lv_at hl 1 rfl) ?_
  refine lv_iload_n hx hb dX4_end_2 rfl (lv_at hl 2 rfl) ?_
  refine xVc hx hb hml hlk hxt hts hown hB hE hH hS kwX4_142 (c_swp E ow x h0 h1 fx ts q fd bk wa t k H hO hL hT hV) (fun X h => h) hO rfl (Nat.le_of_ble_eq_true rfl) rfl hl.1 rfl (Nat.le_of_ble_eq_true rfl) (by omega) (by omega) dX4_end_3 (fun v1 H1 L1 ho1 hz1 hE hS => ?_)
  obtain ⟨i, tr, j, ⟨ht, etr, epr, ek, hj⟩, hv1, hh1⟩ := ho1
  subst hv1
  have hh1 := hh1.symm
  subst hh1
  dsimp only [Option.toList, List.nil_append, List.cons_append]
  subst ek
  obtain ⟨db, dh, bd, hW⟩ := hT i tr ht
  have hW0 := hW.1
  obtain ⟨n6, n1, n10⟩ := (hV.2.2.2.2.2.2.2.2 tr (List.mem_of_getElem? ht)).n
  have h9 := (hV.2.2.2.2.2.2.2.2 tr (List.mem_of_getElem? ht)).w
  refine lv_iload_n hx hb dX4_end_6 rfl (lv_at hl 2 rfl) ?_
  refine pV hx hb hml hts hown hE kwX4_149 (c_end E (wa i) tr.1 db dh bd (bfC h0 h1 tr.1) tr.2.1 tr.2.2 j H (by omega) hW) hW0 rfl (Nat.le_of_ble_eq_true rfl) rfl hl.1 rfl (Nat.le_of_ble_eq_true rfl) (by omega) (by omega) dX4_end_7 ?_
  exact vx_ret (cI hx hb hr hlk hB hS (by omega) (by omega) (⟨⟨tr, j, by rw [etr]; simp [epr], rfl⟩, rfl⟩) dX4_end_10)

set_option maxRecDepth 100000 in
set_option maxHeartbeats 4000000 in
/-- lots -/
theorem c_xlots (E : ET) (ow : Nat → Nat × Nat) (x : Nat) (h0 h1 fx : Dy) (ts : List TR) (t k : Int32) (H : Heap) (hX : XR E ow x h0 h1 fx ts H) (hV : SV h0 h1 fx ts) (hK : BL ts)  : XCon E yX4_lots cX4_lots 3 (some FieldType.int) 10 2 12 [.ref x, .int t, .int k] H (fun r H' => (∃ tr j, (trd ts t).bind (fun tr => (prd tr k).map (fun j => (tr, j))) = some (tr, j) ∧ r = some (.int (lotS tr.1 tr.2.1 (bfC h0 h1 tr.1) j))) ∧ H' = H) (fun X => X = xI ∧ (trd ts t).bind (fun tr => prd tr k) = none) := by
  refine XCon.of (C := RX4) rfl (by decide +kernel) (Nat.le_of_ble_eq_true rfl) ?_
  intro p e s m below meth co ls hx hb hr hlk hml hown hts hxt hE hH hS hl
  have hl : lv_has ls 3 [(0, .ref x), (1, .int t), (2, .int k)] := hl
  have hB : eB E ≤ s.heap.size := by rw [hH]; exact hE.2.1
  have hE0 : EV E s s.heap := by rw [hH]; exact hE
  obtain ⟨q, fd, bk, wa, hO, hC, hD, hL, hT⟩ := hX.rd hV hK
  refine lv_aload_n hx hb dX4_lots_0 rfl (lv_at hl 0 rfl) ?_
  refine lv_iload_n hx hb dX4_lots_1 rfl (lv_at hl 1 rfl) ?_
  refine lv_iload_n hx hb dX4_lots_2 rfl (lv_at hl 2 rfl) ?_
  refine xVc hx hb hml hlk hxt hts hown hB hE hH hS kwX4_142 (c_swp E ow x h0 h1 fx ts q fd bk wa t k H hO hL hT hV) (fun X h => h) hO rfl (Nat.le_of_ble_eq_true rfl) rfl hl.1 rfl (Nat.le_of_ble_eq_true rfl) (by omega) (by omega) dX4_lots_3 (fun v1 H1 L1 ho1 hz1 hE hS => ?_)
  obtain ⟨i, tr, j, ⟨ht, etr, epr, ek, hj⟩, hv1, hh1⟩ := ho1
  subst hv1
  have hh1 := hh1.symm
  subst hh1
  dsimp only [Option.toList, List.nil_append, List.cons_append]
  subst ek
  obtain ⟨db, dh, bd, hW⟩ := hT i tr ht
  have hW0 := hW.1
  obtain ⟨n6, n1, n10⟩ := (hV.2.2.2.2.2.2.2.2 tr (List.mem_of_getElem? ht)).n
  have h9 := (hV.2.2.2.2.2.2.2.2 tr (List.mem_of_getElem? ht)).w
  refine lv_iload_n hx hb dX4_lots_6 rfl (lv_at hl 2 rfl) ?_
  refine pV hx hb hml hts hown hE kwX4_152 (c_lots E (wa i) tr.1 db dh bd (bfC h0 h1 tr.1) tr.2.1 tr.2.2 j H (by omega) hW) hW0 rfl (Nat.le_of_ble_eq_true rfl) rfl hl.1 rfl (Nat.le_of_ble_eq_true rfl) (by omega) (by omega) dX4_lots_7 ?_
  exact vx_ret (cI hx hb hr hlk hB hS (by omega) (by omega) (⟨⟨tr, j, by rw [etr]; simp [epr], rfl⟩, rfl⟩) dX4_lots_10)

set_option maxRecDepth 100000 in
set_option maxHeartbeats 4000000 in
/-- flow -/
theorem c_xflow (E : ET) (ow : Nat → Nat × Nat) (x : Nat) (h0 h1 fx : Dy) (ts : List TR) (t k : Int32) (H : Heap) (hX : XR E ow x h0 h1 fx ts H) (hV : SV h0 h1 fx ts) (hK : BL ts)  : XCon E yX4_flow cX4_flow 3 (some FieldType.long) 10 2 12 [.ref x, .int t, .int k] H (fun r H' => (∃ tr j, (trd ts t).bind (fun tr => (prd tr k).map (fun j => (tr, j))) = some (tr, j) ∧ r = some (.long (flwS tr.1 tr.2.1 (bfC h0 h1 tr.1) fx j))) ∧ H' = H) (fun X => X = xI ∧ (trd ts t).bind (fun tr => prd tr k) = none) := by
  refine XCon.of (C := RX4) rfl (by decide +kernel) (Nat.le_of_ble_eq_true rfl) ?_
  intro p e s m below meth co ls hx hb hr hlk hml hown hts hxt hE hH hS hl
  have hl : lv_has ls 3 [(0, .ref x), (1, .int t), (2, .int k)] := hl
  have hB : eB E ≤ s.heap.size := by rw [hH]; exact hE.2.1
  have hE0 : EV E s s.heap := by rw [hH]; exact hE
  obtain ⟨q, fd, bk, wa, hO, hC, hD, hL, hT⟩ := hX.rd hV hK
  refine lv_aload_n hx hb dX4_flow_0 rfl (lv_at hl 0 rfl) ?_
  refine lv_iload_n hx hb dX4_flow_1 rfl (lv_at hl 1 rfl) ?_
  refine lv_iload_n hx hb dX4_flow_2 rfl (lv_at hl 2 rfl) ?_
  refine xVc hx hb hml hlk hxt hts hown hB hE hH hS kwX4_142 (c_swp E ow x h0 h1 fx ts q fd bk wa t k H hO hL hT hV) (fun X h => h) hO rfl (Nat.le_of_ble_eq_true rfl) rfl hl.1 rfl (Nat.le_of_ble_eq_true rfl) (by omega) (by omega) dX4_flow_3 (fun v1 H1 L1 ho1 hz1 hE hS => ?_)
  obtain ⟨i, tr, j, ⟨ht, etr, epr, ek, hj⟩, hv1, hh1⟩ := ho1
  subst hv1
  have hh1 := hh1.symm
  subst hh1
  dsimp only [Option.toList, List.nil_append, List.cons_append]
  subst ek
  obtain ⟨db, dh, bd, hW⟩ := hT i tr ht
  have hW0 := hW.1
  obtain ⟨n6, n1, n10⟩ := (hV.2.2.2.2.2.2.2.2 tr (List.mem_of_getElem? ht)).n
  have h9 := (hV.2.2.2.2.2.2.2.2 tr (List.mem_of_getElem? ht)).w
  refine lv_iload_n hx hb dX4_flow_6 rfl (lv_at hl 2 rfl) ?_
  refine lv_aload_n hx hb dX4_flow_7 rfl (lv_at hl 0 rfl) ?_
  refine gf hx hb hts hown hE lkX4_19 hO rfl dX4_flow_8 ?_
  refine pV hx hb hml hts hown hE kwX4_159 (c_flow E (wa i) tr.1 db dh bd (bfC h0 h1 tr.1) tr.2.1 tr.2.2 j (np tr) fd fx H n6 n10 hj h9 hD hW) hW0 rfl (Nat.le_of_ble_eq_true rfl) rfl hl.1 rfl (Nat.le_of_ble_eq_true rfl) (by omega) (by omega) dX4_flow_11 ?_
  exact vx_ret (cL hx hb hr hlk hB hS (by omega) (by omega) (⟨⟨tr, j, by rw [etr]; simp [epr], rfl⟩, rfl⟩) dX4_flow_14)

set_option maxRecDepth 100000 in
set_option maxHeartbeats 4000000 in
/-- isOpen -/
theorem c_xopen (E : ET) (ow : Nat → Nat × Nat) (x : Nat) (h0 h1 fx : Dy) (ts : List TR) (d : Int32) (H : Heap) (hX : XR E ow x h0 h1 fx ts H) (hV : SV h0 h1 fx ts) (hK : BL ts)  : XCon E yX4_isOpen cX4_isOpen 2 (some FieldType.boolean) 10 1 6 [.ref x, .int d] H (fun r H' => (inB d 0 3000 = true ∧ r = some (.int ((if opn h0 h1 d.toNatClampNeg then 1 else 0)))) ∧ H' = H) (fun X => X = xA ∧ inB d 0 3000 = false) := by
  refine XCon.of (C := RX4) rfl (by decide +kernel) (Nat.le_of_ble_eq_true rfl) ?_
  intro p e s m below meth co ls hx hb hr hlk hml hown hts hxt hE hH hS hl
  have hl : lv_has ls 2 [(0, .ref x), (1, .int d)] := hl
  have hB : eB E ≤ s.heap.size := by rw [hH]; exact hE.2.1
  have hE0 : EV E s s.heap := by rw [hH]; exact hE
  obtain ⟨q, fd, bk, wa, hO, hC, hD, hL, hT⟩ := hX.rd hV hK
  refine lv_iload_n hx hb dX4_isOpen_0 rfl (lv_at hl 1 rfl) ?_
  refine lv_iconst (v := 0) hx hb dX4_isOpen_1 (by decide) ?_
  refine lv_sipush (v := 3000) hx hb dX4_isOpen_2 (by decide) ?_
  refine xSc hx hb hml hlk hxt hts hown hB hE hH hS kwX4_37 (c_crange E d 0 3000 H) (fun _ h => h) (Nat.le_of_ble_eq_true rfl) rfl hl.1 rfl (Nat.le_of_ble_eq_true rfl) (by omega) (by omega) dX4_isOpen_5 (fun v1 H1 L1 ho1 hz1 hE hS => ?_)
  obtain ⟨g1, hv1, hh1⟩ := ho1
  subst hv1
  have hh1 := hh1.symm
  subst hh1
  dsimp only [Option.toList, List.nil_append, List.cons_append]
  obtain ⟨j, hj, ej⟩ := inB_nI (n := 3000) g1
  subst ej
  rw [nI_clamp (by omega)]
  obtain ⟨d0, d1, hq0, -⟩ := id hC
  refine lv_aload_n hx hb dX4_isOpen_8 rfl (lv_at hl 0 rfl) ?_
  refine gf hx hb hts hown hE lkX4_10 hO rfl dX4_isOpen_9 ?_
  refine lv_iload_n hx hb dX4_isOpen_12 rfl (lv_at hl 1 rfl) ?_
  refine pV hx hb hml hts hown hE kwX4_65 (c_opensOn E q j h0 h1 H (by omega) hC) hq0 rfl (Nat.le_of_ble_eq_true rfl) rfl hl.1 rfl (Nat.le_of_ble_eq_true rfl) (by omega) (by omega) dX4_isOpen_13 ?_
  exact vx_ret (cZ hx hb hr hlk hB hS (by omega) (by omega) (by cases opn h0 h1 j <;> decide) (⟨⟨g1, rfl⟩, rfl⟩) dX4_isOpen_16)

set_option maxRecDepth 100000 in
set_option maxHeartbeats 4000000 in
/-- roll -/
theorem c_xroll (E : ET) (ow : Nat → Nat × Nat) (x : Nat) (h0 h1 fx : Dy) (ts : List TR) (d : Int32) (H : Heap) (hX : XR E ow x h0 h1 fx ts H) (hV : SV h0 h1 fx ts) (hK : BL ts)  : XCon E yX4_roll cX4_roll 2 (some FieldType.int) 10 1 6 [.ref x, .int d] H (fun r H' => (inB d 0 3000 = true ∧ r = some (.int (nI (rol h0 h1 d.toNatClampNeg)))) ∧ H' = H) (fun X => X = xA ∧ inB d 0 3000 = false) := by
  refine XCon.of (C := RX4) rfl (by decide +kernel) (Nat.le_of_ble_eq_true rfl) ?_
  intro p e s m below meth co ls hx hb hr hlk hml hown hts hxt hE hH hS hl
  have hl : lv_has ls 2 [(0, .ref x), (1, .int d)] := hl
  have hB : eB E ≤ s.heap.size := by rw [hH]; exact hE.2.1
  have hE0 : EV E s s.heap := by rw [hH]; exact hE
  obtain ⟨q, fd, bk, wa, hO, hC, hD, hL, hT⟩ := hX.rd hV hK
  refine lv_iload_n hx hb dX4_roll_0 rfl (lv_at hl 1 rfl) ?_
  refine lv_iconst (v := 0) hx hb dX4_roll_1 (by decide) ?_
  refine lv_sipush (v := 3000) hx hb dX4_roll_2 (by decide) ?_
  refine xSc hx hb hml hlk hxt hts hown hB hE hH hS kwX4_37 (c_crange E d 0 3000 H) (fun _ h => h) (Nat.le_of_ble_eq_true rfl) rfl hl.1 rfl (Nat.le_of_ble_eq_true rfl) (by omega) (by omega) dX4_roll_5 (fun v1 H1 L1 ho1 hz1 hE hS => ?_)
  obtain ⟨g1, hv1, hh1⟩ := ho1
  subst hv1
  have hh1 := hh1.symm
  subst hh1
  dsimp only [Option.toList, List.nil_append, List.cons_append]
  obtain ⟨j, hj, ej⟩ := inB_nI (n := 3000) g1
  subst ej
  rw [nI_clamp (by omega)]
  obtain ⟨d0, d1, hq0, -⟩ := id hC
  refine lv_aload_n hx hb dX4_roll_8 rfl (lv_at hl 0 rfl) ?_
  refine gf hx hb hts hown hE lkX4_10 hO rfl dX4_roll_9 ?_
  refine lv_iload_n hx hb dX4_roll_12 rfl (lv_at hl 1 rfl) ?_
  refine pV hx hb hml hts hown hE kwX4_68 (c_rol E q j h0 h1 H (by omega) hC) hq0 rfl (Nat.le_of_ble_eq_true rfl) rfl hl.1 rfl (Nat.le_of_ble_eq_true rfl) (by omega) (by omega) dX4_roll_13 ?_
  exact vx_ret (cI hx hb hr hlk hB hS (by omega) (by omega) (⟨⟨g1, rfl⟩, rfl⟩) dX4_roll_16)
end
section
/-- what a trade pays a party -/
def csh1 (h0 h1 fx : Dy) (pa d1 d2 : Int32) (tr : TR) : Int64 := cshS tr.1 tr.2.1 tr.2.2 (bfC h0 h1 tr.1) fx pa d1 d2 (np tr)
theorem sumK_csh (h0 h1 fx : Dy) (pa d1 d2 : Int32) (tr : TR) (v : Int64) (k : Nat) : sumK h0 h1 fx pa d1 d2 tr v k = v + cshS tr.1 tr.2.1 tr.2.2 (bfC h0 h1 tr.1) fx pa d1 d2 k := by
  induction k with
  | zero => exact (Int64.add_zero v).symm
  | succ k ih =>
    unfold sumK cshS
    rw [ih]
    by_cases c : d1 ≤ bfC h0 h1 tr.1 (k + 1) ∧ bfC h0 h1 tr.1 (k + 1) ≤ d2 ∧ hldS tr.1 tr.2.2 (bfC h0 h1 tr.1 (k + 1)) = pa
    · rw [if_pos c, if_pos ⟨by simp [inB, c.1, c.2.1], c.2.2⟩, Int64.add_assoc]
    · rw [if_neg c, if_neg (fun q => c ?_), Int64.add_zero]
      have q1 := q.1
      unfold inB at q1
      rw [Bool.and_eq_true, decide_eq_true_eq, decide_eq_true_eq] at q1
      exact ⟨q1.1, q1.2, q.2⟩
theorem sumS_cons (h0 h1 fx : Dy) (pa d1 d2 : Int32) (tr : TR) (v : Int64) (us : List TR) : sumS h0 h1 fx pa d1 d2 v (tr :: us) = sumS h0 h1 fx pa d1 d2 (v + csh1 h0 h1 fx pa d1 d2 tr) us := by
  show sumS h0 h1 fx pa d1 d2 (sumK h0 h1 fx pa d1 d2 tr v (np tr)) us = _
  rw [sumK_csh]
  rfl
theorem sumS_add (h0 h1 fx : Dy) (pa d1 d2 : Int32) (us : List TR) : ∀ v : Int64, sumS h0 h1 fx pa d1 d2 v us = v + sumS h0 h1 fx pa d1 d2 0 us := by
  induction us with
  | nil => intro v; exact (Int64.add_zero v).symm
  | cons tr us ih =>
    intro v
    rw [sumS_cons, sumS_cons, ih, ih (0 + csh1 h0 h1 fx pa d1 d2 tr), Int64.zero_add, Int64.add_assoc]
theorem sumS_c0 (h0 h1 fx : Dy) (pa d1 d2 : Int32) (tr : TR) (us : List TR) : sumS h0 h1 fx pa d1 d2 0 (tr :: us) = csh1 h0 h1 fx pa d1 d2 tr + sumS h0 h1 fx pa d1 d2 0 us := by
  rw [sumS_cons, sumS_add, Int64.zero_add]
theorem i64_sw (a b c d : Int64) : a + b + (c + d) = a + c + (b + d) := by
  rw [Int64.add_assoc, Int64.add_assoc, ← Int64.add_assoc b, ← Int64.add_assoc c, Int64.add_comm b c]
theorem csh_split (T : Nat → Int32) (bs hs : Dy) (bf : Nat → Int32) (fx : Dy) (pa : Int32) {a b : Nat} (hab : a ≤ b + 1) (hb : b + 1 < 2 ^ 31) (k : Nat) : cshS T bs hs bf fx pa (nI a) (nI (b + 1)) k = cshS T bs hs bf fx pa (nI a) (nI b) k + cshS T bs hs bf fx pa (nI (b + 1)) (nI (b + 1)) k := by
  induction k with
  | zero => exact (Int64.add_zero 0).symm
  | succ k ih =>
    unfold cshS
    rw [ih]
    have e1 := nI_toInt (n := a) (by omega)
    have e2 := nI_toInt (n := b) (by omega)
    have e3 := nI_toInt (n := b + 1) hb
    by_cases ch : hldS T hs (bf (k + 1)) = pa
    · simp only [ch, and_true, Int32.le_iff_toInt_le, e1, e2, e3]
      by_cases c1 : (a : Int) ≤ (bf (k + 1)).toInt ∧ (bf (k + 1)).toInt ≤ (b : Int)
      · rw [if_pos (by omega), if_pos c1, if_neg (by omega), Int64.add_assoc, Int64.add_assoc, Int64.add_comm (cshS _ _ _ _ _ _ _ _ k) (flwS _ _ _ _ _)]
      · by_cases c2 : (bf (k + 1)).toInt = (b : Int) + 1
        · rw [if_pos (by omega), if_neg c1, if_pos (by omega), Int64.add_assoc]
        · rw [if_neg (by omega), if_neg c1, if_neg (by omega)]
    · simp only [ch, and_false, if_false]
theorem sumS_split (h0 h1 fx : Dy) (pa : Int32) {a b : Nat} (hab : a ≤ b + 1) (hb : b + 1 < 2 ^ 31) (us : List TR) : sumS h0 h1 fx pa (nI a) (nI (b + 1)) 0 us = sumS h0 h1 fx pa (nI a) (nI b) 0 us + sumS h0 h1 fx pa (nI (b + 1)) (nI (b + 1)) 0 us := by
  induction us with
  | nil => exact (Int64.add_zero 0).symm
  | cons tr us ih =>
    rw [sumS_c0, sumS_c0, sumS_c0, ih]
    have e : csh1 h0 h1 fx pa (nI a) (nI (b + 1)) tr = csh1 h0 h1 fx pa (nI a) (nI b) tr + csh1 h0 h1 fx pa (nI (b + 1)) (nI (b + 1)) tr := csh_split _ _ _ _ _ _ hab hb _
    rw [e]
    exact i64_sw _ _ _ _
/-- the sums of i days from a on, one by one -/
def dayS (h0 h1 fx : Dy) (pa : Int32) (ts : List TR) (a : Nat) : Nat → Int64
  | 0 => 0
  | i + 1 => dayS h0 h1 fx pa ts a i + sumS h0 h1 fx pa (nI (a + i)) (nI (a + i)) 0 ts
theorem dayS_sum (h0 h1 fx : Dy) (pa : Int32) (ts : List TR) (a : Nat) : ∀ i, a + i < 2 ^ 31 → dayS h0 h1 fx pa ts a (i + 1) = sumS h0 h1 fx pa (nI a) (nI (a + i)) 0 ts
  | 0, _ => Int64.zero_add _
  | i + 1, h => by
    show dayS h0 h1 fx pa ts a (i + 1) + _ = _
    rw [dayS_sum h0 h1 fx pa ts a i (by omega)]
    exact (sumS_split h0 h1 fx pa (a := a) (b := a + i) (by omega) h ts).symm
/-- the lesser of two pay days, -1 for none -/
def minO (a b : Int32) : Int32 := if b = -1 then a else if a = -1 then b else if b < a then b else a
def npT (h0 h1 : Dy) (pa day : Int32) (tr : TR) : Int32 := npS tr.1 tr.2.2 (bfC h0 h1 tr.1) pa day (np tr) 0
def nxT (h0 h1 : Dy) (pa day : Int32) : Int32 → List TR → Int32
  | v, [] => v
  | v, tr :: us => nxT h0 h1 pa day (minO v (npT h0 h1 pa day tr)) us
def cdPO (ts : List TR) (t day : Int32) : Nat := if (trd ts t).isNone then 1 else if inB day 0 3000 then 0 else 2
def cdCash (pa day : Int32) : Nat := if inB pa 0 3 = false then 1 else if inB day 0 3100 then 0 else 2
def cdSpan (pa d1 d2 : Int32) : Nat := if inB pa 0 3 = false then 1 else if inB d1 0 3100 ∧ inB d2 d1 (if d1 + 400 < 3100 then d1 + 400 else 3100) then 0 else 2
/-- the exception of a code -/
def xn2 : Nat → String
  | 1 => xI
  | 2 => xA
  | _ => xS
theorem SV.tn {h0 h1 fx : Dy} {ts : List TR} (hV : SV h0 h1 fx ts) : ts.length ≤ 10 := hV.2.2.2.2.2.2.2.1
theorem SV.tv {h0 h1 fx : Dy} {ts : List TR} (hV : SV h0 h1 fx ts) {i : Nat} {tr : TR} (ht : ts[i]? = some tr) : TV tr := hV.2.2.2.2.2.2.2.2 tr (List.mem_of_getElem? ht)
theorem span_nI {d1 d2 : Int32} (h : inB d1 0 3100 = true ∧ inB d2 d1 (if d1 + 400 < 3100 then d1 + 400 else 3100) = true) : ∃ a n, a + n ≤ 3100 ∧ d1 = nI a ∧ d2 = nI (a + n) := by
  obtain ⟨a, ha, e⟩ := inB_nI (n := 3100) h.1
  subst e
  have h2 := h.2
  unfold inB at h2
  rw [Bool.and_eq_true, decide_eq_true_eq, decide_eq_true_eq] at h2
  obtain ⟨b, hb, e⟩ := nI_of (Int32.not_lt.mpr (Int32.le_trans (nI_pos' (n := a) (by omega)) h2.1))
  subst e
  have h3 := (nI_leI (by omega) hb).mp h2.1
  have h4 : nI b ≤ 3100 := by
    refine Int32.le_trans h2.2 ?_
    split
    · rename_i c; exact Int32.le_of_lt c
    · exact Int32.le_refl _
  have h5 : b ≤ 3100 := (nI_leI (b := 3100) hb (by decide)).mp h4
  exact ⟨a, b - a, by omega, rfl, by rw [show a + (b - a) = b by omega]⟩
set_option maxRecDepth 100000 in
set_option maxHeartbeats 4000000 in
/-- trades -/
theorem c_xtrades (E : ET) (ow : Nat → Nat × Nat) (x : Nat) (h0 h1 fx : Dy) (ts : List TR) (H : Heap) (hX : XR E ow x h0 h1 fx ts H) (hV : SV h0 h1 fx ts) (hK : BL ts) : PCon E yX4_trades cX4_trades 1 (some FieldType.int) 6 [.ref x] H (some (.int (nI ts.length))) := by
  refine PCon.of (C := RX4) rfl (by decide +kernel) (Nat.le_of_ble_eq_true rfl) ?_
  intro p e s m below meth co ls hx hb hr hlk hml hown hts hE hH hl
  have hl : lv_has ls 1 [(0, .ref x)] := hl
  obtain ⟨q, fd, bk, wa, hO, hC, hD, hL, hT⟩ := hX.rd hV hK
  obtain ⟨fs0, hOb, hcl⟩ := hL.ob
  refine lv_aload_n hx hb dX4_trades_0 rfl (lv_at hl 0 rfl) ?_
  refine gf hx hb hts hown hE lkX4_26 hO rfl dX4_trades_1 ?_
  refine pV hx hb hml hts hown hE kwX4_85 (c_size E bk ts.length wa H hL) hOb rfl (Nat.le_of_ble_eq_true rfl) rfl hl.1 rfl (Nat.le_of_ble_eq_true rfl) (Nat.le_refl _) (Nat.le_refl _) dX4_trades_4 ?_
  exact pI hx hb hr hlk hH rfl dX4_trades_7

set_option maxRecDepth 100000 in
set_option maxHeartbeats 4000000 in
/-- partyOn -/
theorem c_xparty (E : ET) (ow : Nat → Nat × Nat) (x : Nat) (h0 h1 fx : Dy) (ts : List TR) (t day : Int32) (H : Heap) (hX : XR E ow x h0 h1 fx ts H) (hV : SV h0 h1 fx ts) (hK : BL ts)  : XCon E yX4_partyOn cX4_partyOn 4 (some FieldType.int) 10 2 12 [.ref x, .int t, .int day] H (fun r H' => (∃ tr, trd ts t = some tr ∧ cdPO ts t day = 0 ∧ r = some (.int (hldS tr.1 tr.2.2 day))) ∧ H' = H) (fun X => cdPO ts t day ≠ 0 ∧ X = xn2 (cdPO ts t day)) := by
  refine XCon.of (C := RX4) rfl (by decide +kernel) (Nat.le_of_ble_eq_true rfl) ?_
  intro p e s m below meth co ls hx hb hr hlk hml hown hts hxt hE hH hS hl
  have hl : lv_has ls 4 [(0, .ref x), (1, .int t), (2, .int day)] := hl
  have hB : eB E ≤ s.heap.size := by rw [hH]; exact hE.2.1
  have hE0 : EV E s s.heap := by rw [hH]; exact hE
  obtain ⟨q, fd, bk, wa, hO, hC, hD, hL, hT⟩ := hX.rd hV hK
  refine lv_aload_n hx hb dX4_partyOn_0 rfl (lv_at hl 0 rfl) ?_
  refine lv_iload_n hx hb dX4_partyOn_1 rfl (lv_at hl 1 rfl) ?_
  refine xVc hx hb hml hlk hxt hts hown hB hE hH hS kwX4_102 (c_swapAt E ow x q fd bk wa ts t H hO hL hV.tn (fun i hi => by obtain ⟨tr, ht⟩ := getq hi; obtain ⟨db, dh, bd, h9⟩ := hT i tr ht; exact ⟨_, h9.1⟩)) (fun X h => by have e9 : cdPO ts t day = 1 := (by unfold cdPO; rw [trd_no h.2]; rfl); rw [e9]; exact ⟨by decide, h.1⟩) hO rfl (Nat.le_of_ble_eq_true rfl) rfl hl.1 rfl (Nat.le_of_ble_eq_true rfl) (by omega) (by omega) dX4_partyOn_2 (fun v1 H1 L1 ho1 hz1 hE hS => ?_)
  obtain ⟨i, hi, et, hv1, hh1⟩ := ho1
  subst hv1
  have hh1 := hh1.symm
  subst hh1
  dsimp only [Option.toList, List.nil_append, List.cons_append]
  obtain ⟨tr, ht⟩ := getq hi
  have hin := hV.tn
  have etr : trd ts t = some tr := by rw [et, trd_nI (by omega)]; exact ht
  obtain ⟨db, dh, bd, hW⟩ := hT i tr ht
  have hW0 := hW.1
  obtain ⟨n6, n1, n10⟩ := (hV.tv ht).n
  have h9 := (hV.tv ht).w
  refine lv_astore_n (lv' := [(3, .ref (wa i)), (0, .ref x), (1, .int t), (2, .int day)]) hx hb dX4_partyOn_5 rfl hl (by decide) rfl (fun ls hl => ?_)
  refine lv_iload_n hx hb dX4_partyOn_6 rfl (lv_at hl 3 rfl) ?_
  refine lv_iconst (v := 0) hx hb dX4_partyOn_7 (by decide) ?_
  refine lv_sipush (v := 3000) hx hb dX4_partyOn_8 (by decide) ?_
  refine xSc hx hb hml hlk hxt hts hown hB hE hH hS kwX4_37 (c_crange E day 0 3000 H) (fun X h => by have e9 : cdPO ts t day = 2 := (by unfold cdPO; rw [etr, h.2]; rfl); rw [e9]; exact ⟨by decide, h.1⟩) (Nat.le_of_ble_eq_true rfl) rfl hl.1 rfl (Nat.le_of_ble_eq_true rfl) (by omega) (by omega) dX4_partyOn_11 (fun v2 H2 L2 ho2 hz2 hE hS => ?_)
  obtain ⟨g1, hv2, hh2⟩ := ho2
  subst hv2
  have hh2 := hh2.symm
  subst hh2
  dsimp only [Option.toList, List.nil_append, List.cons_append]
  refine lv_aload_n hx hb dX4_partyOn_14 rfl (lv_at hl 0 rfl) ?_
  refine lv_iload_n hx hb dX4_partyOn_15 rfl (lv_at hl 3 rfl) ?_
  refine pV hx hb hml hts hown hE kwX4_131 (c_hold E (wa i) tr.1 db dh bd (bfC h0 h1 tr.1) tr.2.1 tr.2.2 day H hW) hW0 rfl (Nat.le_of_ble_eq_true rfl) rfl hl.1 rfl (Nat.le_of_ble_eq_true rfl) (by omega) (by omega) dX4_partyOn_16 ?_
  exact vx_ret (cI hx hb hr hlk hB hS (by omega) (by omega) (⟨⟨tr, etr, by unfold cdPO; rw [etr, g1]; rfl, rfl⟩, rfl⟩) dX4_partyOn_19)

set_option maxRecDepth 100000 in
set_option maxHeartbeats 4000000 in
/-- cashOnDay -/
theorem c_cday (E : ET) (x q fd bk : Nat) (wa : Nat → Nat) (h0 h1 fx : Dy) (ts : List TR) (pa d : Int32) (H : Heap) (hO : OB E 5 [.ref q, .ref fd, .ref bk] x H) (hC : CR E q h0 h1 H) (hD : DR E fd fx H) (hL : LR E bk ts.length wa H) (hT : ∀ t tr, ts[t]? = some tr → ∃ db dh bd, SRx E (wa t) tr.1 db dh bd (bfC h0 h1 tr.1) tr.2.1 tr.2.2 H) (hV : SV h0 h1 fx ts) : PCon E yX4_cashOnDay cX4_cashOnDay 6 (some FieldType.long) 9 [.ref x, .int pa, .int d] H (some (.long (sumS h0 h1 fx pa d d 0 ts))) := by
  refine PCon.of (C := RX4) rfl (by decide +kernel) (Nat.le_of_ble_eq_true rfl) ?_
  intro p e s m below meth co ls hx hb hr hlk hml hown hts hE hH hl
  have hl : lv_has ls 6 [(0, .ref x), (1, .int pa), (2, .int d)] := hl
  obtain ⟨fs0, hOb, hcl⟩ := hL.ob
  refine lv_lconst (v := 0) hx hb dX4_cashOnDay_0 (by decide) ?_
  refine lv_lstore_n (lv' := [(3, .long 0), (0, .ref x), (1, .int pa), (2, .int d)]) hx hb dX4_cashOnDay_1 rfl hl (by decide) rfl (fun ls hl => ?_)
  refine lv_iconst (v := 0) hx hb dX4_cashOnDay_2 (by decide) ?_
  refine lv_istore (lv' := [(5, .int 0), (3, .long 0), (0, .ref x), (1, .int pa), (2, .int d)]) hx hb dX4_cashOnDay_3 hl (by decide) rfl (fun ls hl => ?_)
  have loop : ∀ (us : List TR) (i : Nat) (v : Int64) (ls : Array Slot), ts.drop i = us → i ≤ ts.length → sumS h0 h1 fx pa d d 0 ts = sumS h0 h1 fx pa d d v us → lv_has ls 6 [(5, .int (nI i)), (3, .long v), (0, .ref x), (1, .int pa), (2, .int d)] → W p (eL E) e (rmk 9 0 0) s m ([.ref x, .int pa, .int d]).toArray below meth co H [] 0 0 (MQ below (PQ (some (.long (sumS h0 h1 fx pa d d 0 ts)))) ([.ref x, .int pa, .int d]).toArray s 0 0 (fun _ => False)) (F0 m 5 ls []) := by
    intro us
    induction us with
    | nil =>
      intro i v ls hd hi he hl
      have hi2 := drop_n hd hi
      have hin := hV.tn
      refine lv_iload hx hb dX4_cashOnDay_5 (lv_at hl 0 rfl) ?_
      refine lv_aload_n hx hb dX4_cashOnDay_7 rfl (lv_at hl 2 rfl) ?_
      refine gf hx hb hts hown hE lkX4_26 hO rfl dX4_cashOnDay_8 ?_
      refine pV hx hb hml hts hown hE kwX4_85 (c_size E bk ts.length wa H hL) hOb rfl (Nat.le_of_ble_eq_true rfl) rfl hl.1 rfl (Nat.le_of_ble_eq_true rfl) (Nat.le_refl _) (Nat.le_refl _) dX4_cashOnDay_11 ?_
      refine lv_icmp_ge (tgt := 48) hx hb dX4_cashOnDay_14 (by decide) (fun c9 => ?_) (fun c9 => ?_)
      rotate_left
      · exact absurd (nI_le (by omega) (by omega)) c9
      refine lv_lload_n hx hb dX4_cashOnDay_48 rfl (lv_at hl 1 rfl) ?_
      exact pL hx hb hr hlk hH (by rw [he]; rfl) dX4_cashOnDay_49
    | cons tr us ih =>
      intro i v ls hd hi he hl
      obtain ⟨ht, hlt, hd2⟩ := drop_c hd
      have hin := hV.tn
      refine lv_iload hx hb dX4_cashOnDay_5 (lv_at hl 0 rfl) ?_
      refine lv_aload_n hx hb dX4_cashOnDay_7 rfl (lv_at hl 2 rfl) ?_
      refine gf hx hb hts hown hE lkX4_26 hO rfl dX4_cashOnDay_8 ?_
      refine pV hx hb hml hts hown hE kwX4_85 (c_size E bk ts.length wa H hL) hOb rfl (Nat.le_of_ble_eq_true rfl) rfl hl.1 rfl (Nat.le_of_ble_eq_true rfl) (Nat.le_refl _) (Nat.le_refl _) dX4_cashOnDay_11 ?_
      refine lv_icmp_ge (tgt := 48) hx hb dX4_cashOnDay_14 (by decide) (fun c9 => ?_) (fun c9 => ?_)
      · exact absurd c9 (nI_ge hlt (by omega))
      obtain ⟨db, dh, bd, hW⟩ := hT i tr ht
      have hW0 := hW.1
      obtain ⟨n6, n1, n10⟩ := (hV.tv ht).n
      have h9 := (hV.tv ht).w
      refine lv_lload_n hx hb dX4_cashOnDay_17 rfl (lv_at hl 1 rfl) ?_
      refine lv_aload_n hx hb dX4_cashOnDay_18 rfl (lv_at hl 2 rfl) ?_
      refine gf hx hb hts hown hE lkX4_26 hO rfl dX4_cashOnDay_19 ?_
      refine lv_iload hx hb dX4_cashOnDay_22 (lv_at hl 0 rfl) ?_
      refine pV hx hb hml hts hown hE kwX4_134 (c_get E bk ts.length i wa H hL hlt) hOb rfl (Nat.le_of_ble_eq_true rfl) rfl hl.1 rfl (Nat.le_of_ble_eq_true rfl) (Nat.le_refl _) (Nat.le_refl _) dX4_cashOnDay_24 ?_
      refine cst hx hb hts hown hE qw2_74 hW0 rfl dX4_cashOnDay_27 ?_
      refine lv_iload_n hx hb dX4_cashOnDay_30 rfl (lv_at hl 3 rfl) ?_
      refine lv_iload_n hx hb dX4_cashOnDay_31 rfl (lv_at hl 4 rfl) ?_
      refine lv_iload_n hx hb dX4_cashOnDay_32 rfl (lv_at hl 4 rfl) ?_
      refine lv_aload_n hx hb dX4_cashOnDay_33 rfl (lv_at hl 2 rfl) ?_
      refine gf hx hb hts hown hE lkX4_19 hO rfl dX4_cashOnDay_34 ?_
      refine pV hx hb hml hts hown hE kwX4_169 (c_cashOf E (wa i) tr.1 db dh bd (bfC h0 h1 tr.1) tr.2.1 tr.2.2 (np tr) fd pa d d fx H n6 n10 h9 hD hW) hW0 rfl (Nat.le_of_ble_eq_true rfl) rfl hl.1 rfl (Nat.le_of_ble_eq_true rfl) (Nat.le_refl _) (Nat.le_refl _) dX4_cashOnDay_37 ?_
      refine lv_ladd hx hb dX4_cashOnDay_40 ?_
      refine lv_lstore_n (lv' := [(3, .long (v + csh1 h0 h1 fx pa d d tr)), (5, .int (nI i)), (0, .ref x), (1, .int pa), (2, .int d)]) hx hb dX4_cashOnDay_41 rfl hl (by decide) rfl (fun ls hl => ?_)
      refine lv_iinc (v := nI (i + 1)) (lv' := [(5, .int (nI (i + 1))), (3, .long (v + csh1 h0 h1 fx pa d d tr)), (0, .ref x), (1, .int pa), (2, .int d)]) hx hb dX4_cashOnDay_42 hl (k := 1) rfl (nI_1 i) (by decide) rfl (fun ls hl => ?_)
      refine lv_goto (tgt := 5) hx hb dX4_cashOnDay_45 (by decide) ?_
      exact ih (i + 1) _ ls hd2 (by omega) (he.trans (sumS_cons _ _ _ _ _ _ _ _ _)) (lv_sub hl [0, 1, 2, 3, 4] rfl)
  exact loop ts 0 0 ls rfl (Nat.zero_le _) rfl (lv_sub hl [0, 1, 2, 3, 4] rfl)

set_option maxRecDepth 100000 in
set_option maxHeartbeats 4000000 in
/-- cashByTrades -/
theorem c_xbytr (E : ET) (ow : Nat → Nat × Nat) (x : Nat) (h0 h1 fx : Dy) (ts : List TR) (pa d1 d2 : Int32) (H : Heap) (hX : XR E ow x h0 h1 fx ts H) (hV : SV h0 h1 fx ts) (hK : BL ts)  : XCon E yX4_cashByTrades cX4_cashByTrades 7 (some FieldType.long) 10 3 18 [.ref x, .int pa, .int d1, .int d2] H (fun r H' => (cdSpan pa d1 d2 = 0 ∧ r = some (.long (sumS h0 h1 fx pa d1 d2 0 ts))) ∧ H' = H) (fun X => cdSpan pa d1 d2 ≠ 0 ∧ X = xn2 (cdSpan pa d1 d2)) := by
  refine XCon.of (C := RX4) rfl (by decide +kernel) (Nat.le_of_ble_eq_true rfl) ?_
  intro p e s m below meth co ls hx hb hr hlk hml hown hts hxt hE hH hS hl
  have hl : lv_has ls 7 [(0, .ref x), (1, .int pa), (2, .int d1), (3, .int d2)] := hl
  have hB : eB E ≤ s.heap.size := by rw [hH]; exact hE.2.1
  have hE0 : EV E s s.heap := by rw [hH]; exact hE
  obtain ⟨q, fd, bk, wa, hO, hC, hD, hL, hT⟩ := hX.rd hV hK
  refine lv_iload_n hx hb dX4_cashByTrades_0 rfl (lv_at hl 1 rfl) ?_
  refine xSc hx hb hml hlk hxt hts hown hB hE hH hS kwX4_81 (c_cparty E pa H) (fun X h => by have e9 : cdSpan pa d1 d2 = 1 := (by unfold cdSpan; rw [if_pos h.2]); rw [e9]; exact ⟨by decide, h.1⟩) (Nat.le_of_ble_eq_true rfl) rfl hl.1 rfl (Nat.le_of_ble_eq_true rfl) (by omega) (by omega) dX4_cashByTrades_1 (fun v1 H1 L1 ho1 hz1 hE hS => ?_)
  obtain ⟨g0, hv1, hh1⟩ := ho1
  subst hv1
  have hh1 := hh1.symm
  subst hh1
  dsimp only [Option.toList, List.nil_append, List.cons_append]
  refine lv_iload_n hx hb dX4_cashByTrades_4 rfl (lv_at hl 2 rfl) ?_
  refine lv_iload_n hx hb dX4_cashByTrades_5 rfl (lv_at hl 3 rfl) ?_
  refine xSc hx hb hml hlk hxt hts hown hB hE hH hS kwX4_166 (c_cspan E d1 d2 H) (fun X h => by have e9 : cdSpan pa d1 d2 = 2 := (by unfold cdSpan; rw [g0, if_neg (by decide), if_neg h.2]); rw [e9]; exact ⟨by decide, h.1⟩) (Nat.le_of_ble_eq_true rfl) rfl hl.1 rfl (Nat.le_of_ble_eq_true rfl) (by omega) (by omega) dX4_cashByTrades_6 (fun v2 H2 L2 ho2 hz2 hE hS => ?_)
  obtain ⟨g1, hv2, hh2⟩ := ho2
  subst hv2
  have hh2 := hh2.symm
  subst hh2
  dsimp only [Option.toList, List.nil_append, List.cons_append]
  have hcd : cdSpan pa d1 d2 = 0 := by unfold cdSpan; rw [g0, if_neg (by decide), if_pos g1]
  obtain ⟨fs0, hOb, hcl⟩ := hL.ob
  refine lv_lconst (v := 0) hx hb dX4_cashByTrades_9 (by decide) ?_
  refine lv_lstore (lv' := [(4, .long 0), (0, .ref x), (1, .int pa), (2, .int d1), (3, .int d2)]) hx hb dX4_cashByTrades_10 hl (by decide) rfl (fun ls hl => ?_)
  refine lv_iconst (v := 0) hx hb dX4_cashByTrades_12 (by decide) ?_
  refine lv_istore (lv' := [(6, .int 0), (4, .long 0), (0, .ref x), (1, .int pa), (2, .int d1), (3, .int d2)]) hx hb dX4_cashByTrades_13 hl (by decide) rfl (fun ls hl => ?_)
  have loop : ∀ (us : List TR) (i : Nat) (v : Int64) (ls : Array Slot), ts.drop i = us → i ≤ ts.length → sumS h0 h1 fx pa d1 d2 0 ts = sumS h0 h1 fx pa d1 d2 v us → lv_has ls 7 [(6, .int (nI i)), (4, .long v), (0, .ref x), (1, .int pa), (2, .int d1), (3, .int d2)] → W p (eL E) e (rmk 10 3 18) s m ([.ref x, .int pa, .int d1, .int d2]).toArray below meth co H L2 ((0 + 1) + 2) ((0 + 6) + 12) (vx_MQ below (CQ E (fun r H' => (cdSpan pa d1 d2 = 0 ∧ r = some (.long (sumS h0 h1 fx pa d1 d2 0 ts))) ∧ H' = H)) (XQ E (fun X => cdSpan pa d1 d2 ≠ 0 ∧ X = xn2 (cdSpan pa d1 d2))) ([.ref x, .int pa, .int d1, .int d2]).toArray s 3 18 (fr E)) (F0 m 15 ls []) := by
    intro us
    induction us with
    | nil =>
      intro i v ls hd hi he hl
      have hi2 := drop_n hd hi
      have hin := hV.tn
      refine lv_iload hx hb dX4_cashByTrades_15 (lv_at hl 0 rfl) ?_
      refine lv_aload_n hx hb dX4_cashByTrades_17 rfl (lv_at hl 2 rfl) ?_
      refine gf hx hb hts hown hE lkX4_26 hO rfl dX4_cashByTrades_18 ?_
      refine pV hx hb hml hts hown hE kwX4_85 (c_size E bk ts.length wa H hL) hOb rfl (Nat.le_of_ble_eq_true rfl) rfl hl.1 rfl (Nat.le_of_ble_eq_true rfl) (by omega) (by omega) dX4_cashByTrades_21 ?_
      refine lv_icmp_ge (tgt := 60) hx hb dX4_cashByTrades_24 (by decide) (fun c9 => ?_) (fun c9 => ?_)
      rotate_left
      · exact absurd (nI_le (by omega) (by omega)) c9
      refine lv_lload hx hb dX4_cashByTrades_60 (lv_at hl 1 rfl) ?_
      exact vx_ret (cL hx hb hr hlk hB hS (by omega) (by omega) (⟨⟨hcd, by rw [he]; rfl⟩, rfl⟩) dX4_cashByTrades_62)
    | cons tr us ih =>
      intro i v ls hd hi he hl
      obtain ⟨ht, hlt, hd2⟩ := drop_c hd
      have hin := hV.tn
      refine lv_iload hx hb dX4_cashByTrades_15 (lv_at hl 0 rfl) ?_
      refine lv_aload_n hx hb dX4_cashByTrades_17 rfl (lv_at hl 2 rfl) ?_
      refine gf hx hb hts hown hE lkX4_26 hO rfl dX4_cashByTrades_18 ?_
      refine pV hx hb hml hts hown hE kwX4_85 (c_size E bk ts.length wa H hL) hOb rfl (Nat.le_of_ble_eq_true rfl) rfl hl.1 rfl (Nat.le_of_ble_eq_true rfl) (by omega) (by omega) dX4_cashByTrades_21 ?_
      refine lv_icmp_ge (tgt := 60) hx hb dX4_cashByTrades_24 (by decide) (fun c9 => ?_) (fun c9 => ?_)
      · exact absurd c9 (nI_ge hlt (by omega))
      obtain ⟨db, dh, bd, hW⟩ := hT i tr ht
      have hW0 := hW.1
      obtain ⟨n6, n1, n10⟩ := (hV.tv ht).n
      have h9 := (hV.tv ht).w
      refine lv_lload hx hb dX4_cashByTrades_27 (lv_at hl 1 rfl) ?_
      refine lv_aload_n hx hb dX4_cashByTrades_29 rfl (lv_at hl 2 rfl) ?_
      refine gf hx hb hts hown hE lkX4_26 hO rfl dX4_cashByTrades_30 ?_
      refine lv_iload hx hb dX4_cashByTrades_33 (lv_at hl 0 rfl) ?_
      refine pV hx hb hml hts hown hE kwX4_134 (c_get E bk ts.length i wa H hL hlt) hOb rfl (Nat.le_of_ble_eq_true rfl) rfl hl.1 rfl (Nat.le_of_ble_eq_true rfl) (by omega) (by omega) dX4_cashByTrades_35 ?_
      refine cst hx hb hts hown hE qw2_74 hW0 rfl dX4_cashByTrades_38 ?_
      refine lv_iload_n hx hb dX4_cashByTrades_41 rfl (lv_at hl 3 rfl) ?_
      refine lv_iload_n hx hb dX4_cashByTrades_42 rfl (lv_at hl 4 rfl) ?_
      refine lv_iload_n hx hb dX4_cashByTrades_43 rfl (lv_at hl 5 rfl) ?_
      refine lv_aload_n hx hb dX4_cashByTrades_44 rfl (lv_at hl 2 rfl) ?_
      refine gf hx hb hts hown hE lkX4_19 hO rfl dX4_cashByTrades_45 ?_
      refine pV hx hb hml hts hown hE kwX4_169 (c_cashOf E (wa i) tr.1 db dh bd (bfC h0 h1 tr.1) tr.2.1 tr.2.2 (np tr) fd pa d1 d2 fx H n6 n10 h9 hD hW) hW0 rfl (Nat.le_of_ble_eq_true rfl) rfl hl.1 rfl (Nat.le_of_ble_eq_true rfl) (by omega) (by omega) dX4_cashByTrades_48 ?_
      refine lv_ladd hx hb dX4_cashByTrades_51 ?_
      refine lv_lstore (lv' := [(4, .long (v + csh1 h0 h1 fx pa d1 d2 tr)), (6, .int (nI i)), (0, .ref x), (1, .int pa), (2, .int d1), (3, .int d2)]) hx hb dX4_cashByTrades_52 hl (by decide) rfl (fun ls hl => ?_)
      refine lv_iinc (v := nI (i + 1)) (lv' := [(6, .int (nI (i + 1))), (4, .long (v + csh1 h0 h1 fx pa d1 d2 tr)), (0, .ref x), (1, .int pa), (2, .int d1), (3, .int d2)]) hx hb dX4_cashByTrades_54 hl (k := 1) rfl (nI_1 i) (by decide) rfl (fun ls hl => ?_)
      refine lv_goto (tgt := 15) hx hb dX4_cashByTrades_57 (by decide) ?_
      exact ih (i + 1) _ ls hd2 (by omega) (he.trans (sumS_cons _ _ _ _ _ _ _ _ _)) (lv_sub hl [0, 1, 2, 3, 4, 5] rfl)
  exact loop ts 0 0 ls rfl (Nat.zero_le _) rfl (lv_sub hl [0, 1, 2, 3, 4, 5] rfl)

set_option maxRecDepth 100000 in
set_option maxHeartbeats 4000000 in
/-- cashOfDays -/
theorem c_xdays (E : ET) (ow : Nat → Nat × Nat) (x : Nat) (h0 h1 fx : Dy) (ts : List TR) (pa d1 d2 : Int32) (H : Heap) (hX : XR E ow x h0 h1 fx ts H) (hV : SV h0 h1 fx ts) (hK : BL ts)  : XCon E yX4_cashOfDays cX4_cashOfDays 7 (some FieldType.long) 10 3 18 [.ref x, .int pa, .int d1, .int d2] H (fun r H' => (cdSpan pa d1 d2 = 0 ∧ r = some (.long (sumS h0 h1 fx pa d1 d2 0 ts))) ∧ H' = H) (fun X => cdSpan pa d1 d2 ≠ 0 ∧ X = xn2 (cdSpan pa d1 d2)) := by
  refine XCon.of (C := RX4) rfl (by decide +kernel) (Nat.le_of_ble_eq_true rfl) ?_
  intro p e s m below meth co ls hx hb hr hlk hml hown hts hxt hE hH hS hl
  have hl : lv_has ls 7 [(0, .ref x), (1, .int pa), (2, .int d1), (3, .int d2)] := hl
  have hB : eB E ≤ s.heap.size := by rw [hH]; exact hE.2.1
  have hE0 : EV E s s.heap := by rw [hH]; exact hE
  obtain ⟨q, fd, bk, wa, hO, hC, hD, hL, hT⟩ := hX.rd hV hK
  refine lv_iload_n hx hb dX4_cashOfDays_0 rfl (lv_at hl 1 rfl) ?_
  refine xSc hx hb hml hlk hxt hts hown hB hE hH hS kwX4_81 (c_cparty E pa H) (fun X h => by have e9 : cdSpan pa d1 d2 = 1 := (by unfold cdSpan; rw [if_pos h.2]); rw [e9]; exact ⟨by decide, h.1⟩) (Nat.le_of_ble_eq_true rfl) rfl hl.1 rfl (Nat.le_of_ble_eq_true rfl) (by omega) (by omega) dX4_cashOfDays_1 (fun v1 H1 L1 ho1 hz1 hE hS => ?_)
  obtain ⟨g0, hv1, hh1⟩ := ho1
  subst hv1
  have hh1 := hh1.symm
  subst hh1
  dsimp only [Option.toList, List.nil_append, List.cons_append]
  refine lv_iload_n hx hb dX4_cashOfDays_4 rfl (lv_at hl 2 rfl) ?_
  refine lv_iload_n hx hb dX4_cashOfDays_5 rfl (lv_at hl 3 rfl) ?_
  refine xSc hx hb hml hlk hxt hts hown hB hE hH hS kwX4_166 (c_cspan E d1 d2 H) (fun X h => by have e9 : cdSpan pa d1 d2 = 2 := (by unfold cdSpan; rw [g0, if_neg (by decide), if_neg h.2]); rw [e9]; exact ⟨by decide, h.1⟩) (Nat.le_of_ble_eq_true rfl) rfl hl.1 rfl (Nat.le_of_ble_eq_true rfl) (by omega) (by omega) dX4_cashOfDays_6 (fun v2 H2 L2 ho2 hz2 hE hS => ?_)
  obtain ⟨g1, hv2, hh2⟩ := ho2
  subst hv2
  have hh2 := hh2.symm
  subst hh2
  dsimp only [Option.toList, List.nil_append, List.cons_append]
  have hcd : cdSpan pa d1 d2 = 0 := by unfold cdSpan; rw [g0, if_neg (by decide), if_pos g1]
  obtain ⟨fs0, hOb, hcl⟩ := hL.ob
  obtain ⟨a, n, ha, e1, e2⟩ := span_nI g1
  subst e1 e2
  refine lv_lconst (v := 0) hx hb dX4_cashOfDays_9 (by decide) ?_
  refine lv_lstore (lv' := [(4, .long 0), (0, .ref x), (1, .int pa), (2, .int (nI a)), (3, .int (nI (a + n)))]) hx hb dX4_cashOfDays_10 hl (by decide) rfl (fun ls hl => ?_)
  refine lv_iload_n hx hb dX4_cashOfDays_12 rfl (lv_at hl 3 rfl) ?_
  refine lv_istore (lv' := [(6, .int (nI a)), (4, .long 0), (0, .ref x), (1, .int pa), (2, .int (nI a)), (3, .int (nI (a + n)))]) hx hb dX4_cashOfDays_13 hl (by decide) rfl (fun ls hl => ?_)
  have loop : ∀ (r i : Nat) (ls : Array Slot), i + r = n + 1 → lv_has ls 7 [(6, .int (nI (a + i))), (4, .long (dayS h0 h1 fx pa ts a i)), (0, .ref x), (1, .int pa), (2, .int (nI a)), (3, .int (nI (a + n)))] → W p (eL E) e (rmk 10 3 18) s m ([.ref x, .int pa, .int (nI a), .int (nI (a + n))]).toArray below meth co H L2 ((0 + 1) + 2) ((0 + 6) + 12) (vx_MQ below (CQ E (fun r H' => (cdSpan pa (nI a) (nI (a + n)) = 0 ∧ r = some (.long (sumS h0 h1 fx pa (nI a) (nI (a + n)) 0 ts))) ∧ H' = H)) (XQ E (fun X => cdSpan pa (nI a) (nI (a + n)) ≠ 0 ∧ X = xn2 (cdSpan pa (nI a) (nI (a + n))))) ([.ref x, .int pa, .int (nI a), .int (nI (a + n))]).toArray s 3 18 (fr E)) (F0 m 15 ls []) := by
    intro r
    induction r with
    | zero =>
      intro i ls hi hl
      have hi2 : i = n + 1 := by omega
      subst hi2
      refine lv_iload hx hb dX4_cashOfDays_15 (lv_at hl 0 rfl) ?_
      refine lv_iload_n hx hb dX4_cashOfDays_17 rfl (lv_at hl 5 rfl) ?_
      refine lv_icmp_gt (tgt := 39) hx hb dX4_cashOfDays_18 (by decide) (fun c9 => ?_) (fun c9 => ?_)
      rotate_left
      · exact absurd (nI_lt (by omega) (by omega)) c9
      refine lv_lload hx hb dX4_cashOfDays_39 (lv_at hl 1 rfl) ?_
      exact vx_ret (cL hx hb hr hlk hB hS (by omega) (by omega) (⟨⟨hcd, by rw [dayS_sum _ _ _ _ _ _ _ (by omega)]⟩, rfl⟩) dX4_cashOfDays_41)
    | succ r ih =>
      intro i ls hi hl
      refine lv_iload hx hb dX4_cashOfDays_15 (lv_at hl 0 rfl) ?_
      refine lv_iload_n hx hb dX4_cashOfDays_17 rfl (lv_at hl 5 rfl) ?_
      refine lv_icmp_gt (tgt := 39) hx hb dX4_cashOfDays_18 (by decide) (fun c9 => ?_) (fun c9 => ?_)
      · exact absurd c9 (nI_nlt (by omega) (by omega))
      refine lv_lload hx hb dX4_cashOfDays_21 (lv_at hl 1 rfl) ?_
      refine lv_aload_n hx hb dX4_cashOfDays_23 rfl (lv_at hl 2 rfl) ?_
      refine lv_iload_n hx hb dX4_cashOfDays_24 rfl (lv_at hl 3 rfl) ?_
      refine lv_iload hx hb dX4_cashOfDays_25 (lv_at hl 0 rfl) ?_
      refine pV hx hb hml hts hown hE kwX4_162 (c_cday E x q fd bk wa h0 h1 fx ts pa (nI (a + i)) H hO hC hD hL hT hV) hO rfl (Nat.le_of_ble_eq_true rfl) rfl hl.1 rfl (Nat.le_of_ble_eq_true rfl) (by omega) (by omega) dX4_cashOfDays_27 ?_
      refine lv_ladd hx hb dX4_cashOfDays_30 ?_
      refine lv_lstore (lv' := [(4, .long (dayS h0 h1 fx pa ts a i + sumS h0 h1 fx pa (nI (a + i)) (nI (a + i)) 0 ts)), (6, .int (nI (a + i))), (0, .ref x), (1, .int pa), (2, .int (nI a)), (3, .int (nI (a + n)))]) hx hb dX4_cashOfDays_31 hl (by decide) rfl (fun ls hl => ?_)
      refine lv_iinc (v := nI (a + (i + 1))) (lv' := [(6, .int (nI (a + (i + 1)))), (4, .long (dayS h0 h1 fx pa ts a i + sumS h0 h1 fx pa (nI (a + i)) (nI (a + i)) 0 ts)), (0, .ref x), (1, .int pa), (2, .int (nI a)), (3, .int (nI (a + n)))]) hx hb dX4_cashOfDays_33 hl (k := 1) rfl (nI_1 (a + i)) (by decide) rfl (fun ls hl => ?_)
      refine lv_goto (tgt := 15) hx hb dX4_cashOfDays_36 (by decide) ?_
      exact ih (i + 1) ls (by omega) (lv_sub hl [0, 1, 2, 3, 4, 5] rfl)
  exact loop (n + 1) 0 ls (by omega) (lv_sub hl [0, 1, 2, 3, 4, 5] rfl)

set_option maxRecDepth 100000 in
set_option maxHeartbeats 4000000 in
/-- nextFlow -/
theorem c_xnext (E : ET) (ow : Nat → Nat × Nat) (x : Nat) (h0 h1 fx : Dy) (ts : List TR) (pa d : Int32) (H : Heap) (hX : XR E ow x h0 h1 fx ts H) (hV : SV h0 h1 fx ts) (hK : BL ts)  : XCon E yX4_nextFlow cX4_nextFlow 6 (some FieldType.int) 10 2 12 [.ref x, .int pa, .int d] H (fun r H' => (cdCash pa d = 0 ∧ r = some (.int (nxT h0 h1 pa d (-1) ts))) ∧ H' = H) (fun X => cdCash pa d ≠ 0 ∧ X = xn2 (cdCash pa d)) := by
  refine XCon.of (C := RX4) rfl (by decide +kernel) (Nat.le_of_ble_eq_true rfl) ?_
  intro p e s m below meth co ls hx hb hr hlk hml hown hts hxt hE hH hS hl
  have hl : lv_has ls 6 [(0, .ref x), (1, .int pa), (2, .int d)] := hl
  have hB : eB E ≤ s.heap.size := by rw [hH]; exact hE.2.1
  have hE0 : EV E s s.heap := by rw [hH]; exact hE
  obtain ⟨q, fd, bk, wa, hO, hC, hD, hL, hT⟩ := hX.rd hV hK
  refine lv_iload_n hx hb dX4_nextFlow_0 rfl (lv_at hl 1 rfl) ?_
  refine xSc hx hb hml hlk hxt hts hown hB hE hH hS kwX4_81 (c_cparty E pa H) (fun X h => by have e9 : cdCash pa d = 1 := (by unfold cdCash; rw [if_pos h.2]); rw [e9]; exact ⟨by decide, h.1⟩) (Nat.le_of_ble_eq_true rfl) rfl hl.1 rfl (Nat.le_of_ble_eq_true rfl) (by omega) (by omega) dX4_nextFlow_1 (fun v1 H1 L1 ho1 hz1 hE hS => ?_)
  obtain ⟨g0, hv1, hh1⟩ := ho1
  subst hv1
  have hh1 := hh1.symm
  subst hh1
  dsimp only [Option.toList, List.nil_append, List.cons_append]
  refine lv_iload_n hx hb dX4_nextFlow_4 rfl (lv_at hl 2 rfl) ?_
  refine lv_iconst (v := 0) hx hb dX4_nextFlow_5 (by decide) ?_
  refine lv_sipush (v := 3100) hx hb dX4_nextFlow_6 (by decide) ?_
  refine xSc hx hb hml hlk hxt hts hown hB hE hH hS kwX4_37 (c_crange E d 0 3100 H) (fun X h => by have e9 : cdCash pa d = 2 := (by unfold cdCash; rw [g0, h.2]; rfl); rw [e9]; exact ⟨by decide, h.1⟩) (Nat.le_of_ble_eq_true rfl) rfl hl.1 rfl (Nat.le_of_ble_eq_true rfl) (by omega) (by omega) dX4_nextFlow_9 (fun v2 H2 L2 ho2 hz2 hE hS => ?_)
  obtain ⟨g1, hv2, hh2⟩ := ho2
  subst hv2
  have hh2 := hh2.symm
  subst hh2
  dsimp only [Option.toList, List.nil_append, List.cons_append]
  have hcd : cdCash pa d = 0 := by unfold cdCash; rw [g0, g1]; rfl
  obtain ⟨fs0, hOb, hcl⟩ := hL.ob
  refine lv_iconst (v := (-1)) hx hb dX4_nextFlow_12 (by decide) ?_
  refine lv_istore_n (lv' := [(3, .int (-1)), (0, .ref x), (1, .int pa), (2, .int d)]) hx hb dX4_nextFlow_13 rfl hl (by decide) rfl (fun ls hl => ?_)
  refine lv_iconst (v := 0) hx hb dX4_nextFlow_14 (by decide) ?_
  refine lv_istore (lv' := [(4, .int 0), (3, .int (-1)), (0, .ref x), (1, .int pa), (2, .int d)]) hx hb dX4_nextFlow_15 hl (by decide) rfl (fun ls hl => ?_)
  have loop : ∀ (us : List TR) (i : Nat) (v : Int32) (ls : Array Slot), ts.drop i = us → i ≤ ts.length → nxT h0 h1 pa d (-1) ts = nxT h0 h1 pa d v us → lv_has ls 6 [(4, .int (nI i)), (3, .int v), (0, .ref x), (1, .int pa), (2, .int d)] → W p (eL E) e (rmk 10 2 12) s m ([.ref x, .int pa, .int d]).toArray below meth co H L2 ((0 + 1) + 1) ((0 + 6) + 6) (vx_MQ below (CQ E (fun r H' => (cdCash pa d = 0 ∧ r = some (.int (nxT h0 h1 pa d (-1) ts))) ∧ H' = H)) (XQ E (fun X => cdCash pa d ≠ 0 ∧ X = xn2 (cdCash pa d))) ([.ref x, .int pa, .int d]).toArray s 2 12 (fr E)) (F0 m 17 ls []) := by
    intro us
    induction us with
    | nil =>
      intro i v ls hd hi he hl
      have hi2 := drop_n hd hi
      have hin := hV.tn
      refine lv_iload hx hb dX4_nextFlow_17 (lv_at hl 0 rfl) ?_
      refine lv_aload_n hx hb dX4_nextFlow_19 rfl (lv_at hl 2 rfl) ?_
      refine gf hx hb hts hown hE lkX4_26 hO rfl dX4_nextFlow_20 ?_
      refine pV hx hb hml hts hown hE kwX4_85 (c_size E bk ts.length wa H hL) hOb rfl (Nat.le_of_ble_eq_true rfl) rfl hl.1 rfl (Nat.le_of_ble_eq_true rfl) (by omega) (by omega) dX4_nextFlow_23 ?_
      refine lv_icmp_ge (tgt := 74) hx hb dX4_nextFlow_26 (by decide) (fun c9 => ?_) (fun c9 => ?_)
      rotate_left
      · exact absurd (nI_le (by omega) (by omega)) c9
      refine lv_iload_n hx hb dX4_nextFlow_74 rfl (lv_at hl 1 rfl) ?_
      exact vx_ret (cI hx hb hr hlk hB hS (by omega) (by omega) (⟨⟨hcd, by rw [he]; rfl⟩, rfl⟩) dX4_nextFlow_75)
    | cons tr us ih =>
      intro i v ls hd hi he hl
      obtain ⟨ht, hlt, hd2⟩ := drop_c hd
      have hin := hV.tn
      refine lv_iload hx hb dX4_nextFlow_17 (lv_at hl 0 rfl) ?_
      refine lv_aload_n hx hb dX4_nextFlow_19 rfl (lv_at hl 2 rfl) ?_
      refine gf hx hb hts hown hE lkX4_26 hO rfl dX4_nextFlow_20 ?_
      refine pV hx hb hml hts hown hE kwX4_85 (c_size E bk ts.length wa H hL) hOb rfl (Nat.le_of_ble_eq_true rfl) rfl hl.1 rfl (Nat.le_of_ble_eq_true rfl) (by omega) (by omega) dX4_nextFlow_23 ?_
      refine lv_icmp_ge (tgt := 74) hx hb dX4_nextFlow_26 (by decide) (fun c9 => ?_) (fun c9 => ?_)
      · exact absurd c9 (nI_ge hlt (by omega))
      obtain ⟨db, dh, bd, hW⟩ := hT i tr ht
      have hW0 := hW.1
      obtain ⟨n6, n1, n10⟩ := (hV.tv ht).n
      have h9 := (hV.tv ht).w
      refine lv_aload_n hx hb dX4_nextFlow_29 rfl (lv_at hl 2 rfl) ?_
      refine gf hx hb hts hown hE lkX4_26 hO rfl dX4_nextFlow_30 ?_
      refine lv_iload hx hb dX4_nextFlow_33 (lv_at hl 0 rfl) ?_
      refine pV hx hb hml hts hown hE kwX4_134 (c_get E bk ts.length i wa H hL hlt) hOb rfl (Nat.le_of_ble_eq_true rfl) rfl hl.1 rfl (Nat.le_of_ble_eq_true rfl) (by omega) (by omega) dX4_nextFlow_35 ?_
      refine cst hx hb hts hown hE qw2_74 hW0 rfl dX4_nextFlow_38 ?_
      refine lv_iload_n hx hb dX4_nextFlow_41 rfl (lv_at hl 3 rfl) ?_
      refine lv_iload_n hx hb dX4_nextFlow_42 rfl (lv_at hl 4 rfl) ?_
      refine pV hx hb hml hts hown hE kwX4_173 (c_np E (wa i) tr.1 db dh bd (bfC h0 h1 tr.1) tr.2.1 tr.2.2 (np tr) pa d H n6 n10 hW) hW0 rfl (Nat.le_of_ble_eq_true rfl) rfl hl.1 rfl (Nat.le_of_ble_eq_true rfl) (by omega) (by omega) dX4_nextFlow_43 ?_
      refine lv_istore (lv' := [(5, .int (npT h0 h1 pa d tr)), (4, .int (nI i)), (3, .int v), (0, .ref x), (1, .int pa), (2, .int d)]) hx hb dX4_nextFlow_46 hl (by decide) rfl (fun ls hl => ?_)
      refine lv_iload hx hb dX4_nextFlow_48 (lv_at hl 0 rfl) ?_
      refine lv_iconst (v := (-1)) hx hb dX4_nextFlow_50 (by decide) ?_
      refine lv_icmp_eq (tgt := 68) hx hb dX4_nextFlow_51 (by decide) (fun c1 => ?_) (fun c1 => ?_)
      · refine lv_iinc (v := nI (i + 1)) (lv' := [(4, .int (nI (i + 1))), (5, .int (npT h0 h1 pa d tr)), (3, .int v), (0, .ref x), (1, .int pa), (2, .int d)]) hx hb dX4_nextFlow_68 hl (k := 1) rfl (nI_1 i) (by decide) rfl (fun ls hl => ?_)
        refine lv_goto (tgt := 17) hx hb dX4_nextFlow_71 (by decide) ?_
        refine ih (i + 1) _ ls hd2 (by omega) ?_ (lv_sub hl [0, 2, 3, 4, 5] rfl)
        rw [he]
        show nxT h0 h1 pa d (minO v (npT h0 h1 pa d tr)) us = _
        rw [minO, if_pos c1]
      · refine lv_iload_n hx hb dX4_nextFlow_54 rfl (lv_at hl 2 rfl) ?_
        refine lv_iconst (v := (-1)) hx hb dX4_nextFlow_55 (by decide) ?_
        refine lv_icmp_eq (tgt := 65) hx hb dX4_nextFlow_56 (by decide) (fun c2 => ?_) (fun c2 => ?_)
        · refine lv_iload hx hb dX4_nextFlow_65 (lv_at hl 0 rfl) ?_
          refine lv_istore_n (lv' := [(3, .int (npT h0 h1 pa d tr)), (5, .int (npT h0 h1 pa d tr)), (4, .int (nI i)), (0, .ref x), (1, .int pa), (2, .int d)]) hx hb dX4_nextFlow_67 rfl hl (by decide) rfl (fun ls hl => ?_)
          refine lv_iinc (v := nI (i + 1)) (lv' := [(4, .int (nI (i + 1))), (3, .int (npT h0 h1 pa d tr)), (5, .int (npT h0 h1 pa d tr)), (0, .ref x), (1, .int pa), (2, .int d)]) hx hb dX4_nextFlow_68 hl (k := 2) rfl (nI_1 i) (by decide) rfl (fun ls hl => ?_)
          refine lv_goto (tgt := 17) hx hb dX4_nextFlow_71 (by decide) ?_
          refine ih (i + 1) _ ls hd2 (by omega) ?_ (lv_sub hl [0, 1, 3, 4, 5] rfl)
          rw [he]
          show nxT h0 h1 pa d (minO v (npT h0 h1 pa d tr)) us = _
          rw [minO, if_neg c1, if_pos c2]
        · refine lv_iload hx hb dX4_nextFlow_59 (lv_at hl 0 rfl) ?_
          refine lv_iload_n hx hb dX4_nextFlow_61 rfl (lv_at hl 2 rfl) ?_
          refine lv_icmp_ge (tgt := 68) hx hb dX4_nextFlow_62 (by decide) (fun c3 => ?_) (fun c3 => ?_)
          · refine lv_iinc (v := nI (i + 1)) (lv' := [(4, .int (nI (i + 1))), (5, .int (npT h0 h1 pa d tr)), (3, .int v), (0, .ref x), (1, .int pa), (2, .int d)]) hx hb dX4_nextFlow_68 hl (k := 1) rfl (nI_1 i) (by decide) rfl (fun ls hl => ?_)
            refine lv_goto (tgt := 17) hx hb dX4_nextFlow_71 (by decide) ?_
            refine ih (i + 1) _ ls hd2 (by omega) ?_ (lv_sub hl [0, 2, 3, 4, 5] rfl)
            rw [he]
            show nxT h0 h1 pa d (minO v (npT h0 h1 pa d tr)) us = _
            rw [minO, if_neg c1, if_neg c2, if_neg (Int32.not_lt.mpr c3)]
          · refine lv_iload hx hb dX4_nextFlow_65 (lv_at hl 0 rfl) ?_
            refine lv_istore_n (lv' := [(3, .int (npT h0 h1 pa d tr)), (5, .int (npT h0 h1 pa d tr)), (4, .int (nI i)), (0, .ref x), (1, .int pa), (2, .int d)]) hx hb dX4_nextFlow_67 rfl hl (by decide) rfl (fun ls hl => ?_)
            refine lv_iinc (v := nI (i + 1)) (lv' := [(4, .int (nI (i + 1))), (3, .int (npT h0 h1 pa d tr)), (5, .int (npT h0 h1 pa d tr)), (0, .ref x), (1, .int pa), (2, .int d)]) hx hb dX4_nextFlow_68 hl (k := 2) rfl (nI_1 i) (by decide) rfl (fun ls hl => ?_)
            refine lv_goto (tgt := 17) hx hb dX4_nextFlow_71 (by decide) ?_
            refine ih (i + 1) _ ls hd2 (by omega) ?_ (lv_sub hl [0, 1, 3, 4, 5] rfl)
            rw [he]
            show nxT h0 h1 pa d (minO v (npT h0 h1 pa d tr)) us = _
            rw [minO, if_neg c1, if_neg c2, if_pos (Int32.not_le.mp c3)]
  exact loop ts 0 (-1) ls rfl (Nat.zero_le _) rfl (lv_sub hl [0, 1, 2, 3, 4] rfl)
end
section
/-- the office with its places -/
def XRx (E : ET) (ow : Nat → Nat × Nat) (x q fd bk : Nat) (wa : Nat → Nat) (h0 h1 fx : Dy) (ts : List TR) (H : Heap) : Prop := OB E 5 [.ref q, .ref fd, .ref bk] x H ∧ CRo E ow q h0 h1 H ∧ DRo E ow 1 fd fx H ∧ LRo E ow 5 bk ts.length wa H ∧ (∀ t tr, ts[t]? = some tr → SRo E ow (10 + 3 * t) (wa t) tr (bfC h0 h1 tr.1) H) ∧ ow x = (0, 0) ∧ eB E ≤ x
theorem XR.x {E : ET} {ow : Nat → Nat × Nat} {x : Nat} {h0 h1 fx : Dy} {ts : List TR} {H : Heap} (h : XR E ow x h0 h1 fx ts H) : ∃ q fd bk wa, XRx E ow x q fd bk wa h0 h1 fx ts H := h
theorem XRx.R {E : ET} {ow : Nat → Nat × Nat} {x q fd bk : Nat} {wa : Nat → Nat} {h0 h1 fx : Dy} {ts : List TR} {H : Heap} (h : XRx E ow x q fd bk wa h0 h1 fx ts H) : XR E ow x h0 h1 fx ts H := ⟨q, fd, bk, wa, h⟩
theorem XRx.rd {E : ET} {ow : Nat → Nat × Nat} {x q fd bk : Nat} {wa : Nat → Nat} {h0 h1 fx : Dy} {ts : List TR} {H : Heap} (h : XRx E ow x q fd bk wa h0 h1 fx ts H) (hV : SV h0 h1 fx ts) (hK : BL ts) : CR E q h0 h1 H ∧ DR E fd fx H ∧ LR E bk ts.length wa H ∧ (∀ t tr, ts[t]? = some tr → ∃ db dh bd, SRx E (wa t) tr.1 db dh bd (bfC h0 h1 tr.1) tr.2.1 tr.2.2 H) := by
  obtain ⟨h1, h2, h3, h4, h5, h6, h7⟩ := h
  have v1 := hV.1
  have v2 := hV.2.1
  have v6 := hV.2.2.2.2.2.1
  have v8 := hV.tn
  refine ⟨h2.CR v1 v2, h3.DR (by omega), h4.LR (by omega), fun t tr ht => (h5 t tr ht).SRx (hK tr (List.mem_of_getElem? ht)) ?_⟩
  obtain ⟨pa, lo, f, le, n, -, -, -, -, -, -, -, -, -, -, -, -, -, -, -, -, -, hh⟩ := hV.tv ht
  omega
/-- one swap is changed -/
theorem XRx.swp {E : ET} {ow ow' : Nat → Nat × Nat} {x q fd bk t : Nat} {wa : Nat → Nat} {h0 h1 fx : Dy} {ts : List TR} {tr tr' : TR} {H H' : Heap} (h : XRx E ow x q fd bk wa h0 h1 fx ts H) (ht : ts[t]? = some tr) (hS : SRo E ow' (10 + 3 * t) (wa t) tr' (bfC h0 h1 tr'.1) H') (hF : ∀ q, q < H.size → ¬ (10 + 3 * t ≤ (ow q).1 ∧ (ow q).1 ≤ 10 + 3 * t + 2) → H'[q]? = H[q]?) (low : ∀ q, q < eB E → H'[q]? = H[q]?) (hBF : eF E < eB E) (hw : ∀ q, q < H.size → ow' q = ow q) : XRx E ow' x q fd bk wa h0 h1 fx (ts.set t tr') H' := by
  obtain ⟨hO, hC, hD, hL, hT, hx, hg⟩ := h
  have hlt : t < ts.length := (List.getElem?_eq_some_iff.mp ht).1
  refine ⟨pk1 hO (hF x (plt hO) (by rw [hx]; show ¬ (10 + 3 * t ≤ 0 ∧ _); omega)), hC.kept low hBF (fun z h9 h8 => hF z h9 (by omega)) hw, hD.kept low hBF (fun z h9 h8 => hF z h9 (by omega)) hw, by rw [List.length_set]; exact hL.kept low hBF (fun z h9 h8 => hF z h9 (by rcases h8 with e | e <;> (rw [e]; show ¬ (10 + 3 * t ≤ 5 ∧ _); omega))) hw, fun u ur hu => ?_, by rw [hw x (plt hO)]; exact hx, hg⟩
  by_cases c : u = t
  · subst c
    rw [List.getElem?_set_self hlt] at hu
    cases hu
    exact hS
  · rw [List.getElem?_set_ne (fun e => c e.symm)] at hu
    exact (hT u ur hu).kept low hBF (fun z h9 h8 => hF z h9 (by omega)) hw
theorem SRo.brk {E : ET} {ow : Nat → Nat × Nat} {L w db dh bd : Nat} {tr : TR} {bs : Dy} {bf : Nat → Int32} {H H' : Heap} (hO : OB E 4 (tfs tr.1 db dh bd) w H) (hdh : DRo E ow (L + 2) dh tr.2.2 H) (hbd : IA E 11 bf bd H) (how : ow w = (L, 0)) (hob : ow bd = (L, 1)) (g1 : eB E ≤ w) (g2 : eB E ≤ bd) (low : ∀ q, q < eB E → H'[q]? = H[q]?) (hBF : eF E < eB E) (hG : DOut E ow (L + 1) db bs H H') : ∃ ow' : Nat → Nat × Nat, (∀ q, q < H.size → ow' q = ow q) ∧ (∀ q, H.size ≤ q → (ow' q).1 = L + 1) ∧ SRo E ow' L w (tr.1, bs, tr.2.2) bf H' ∧ FR (fun q => (ow q).1 = L + 1) H H' := by
  obtain ⟨ow', e1, e2, hD, hF⟩ := hG
  have hN : ∀ z, z < H.size → (ow z).1 ≠ L + 1 → H'[z]? = H[z]? := hF.2
  exact ⟨ow', e1, e2, ⟨db, dh, bd, pk1 hO (hN w (plt hO) (by rw [how]; show L ≠ L + 1; omega)), hD, hdh.kept low hBF (fun z h9 h8 => hN z h9 (by omega)) e1, pk1 hbd (hN bd (plt hbd) (by rw [hob]; show L ≠ L + 1; omega)), by rw [e1 w (plt hO)]; exact how, by rw [e1 bd (plt hbd)]; exact hob, g1, g2⟩, hF⟩
theorem SRo.hnd {E : ET} {ow : Nat → Nat × Nat} {L w db dh bd : Nat} {tr : TR} {hs : Dy} {bf : Nat → Int32} {H H' : Heap} (hO : OB E 4 (tfs tr.1 db dh bd) w H) (hdb : DRo E ow (L + 1) db tr.2.1 H) (hbd : IA E 11 bf bd H) (how : ow w = (L, 0)) (hob : ow bd = (L, 1)) (g1 : eB E ≤ w) (g2 : eB E ≤ bd) (low : ∀ q, q < eB E → H'[q]? = H[q]?) (hBF : eF E < eB E) (hG : DOut E ow (L + 2) dh hs H H') : ∃ ow' : Nat → Nat × Nat, (∀ q, q < H.size → ow' q = ow q) ∧ (∀ q, H.size ≤ q → (ow' q).1 = L + 2) ∧ SRo E ow' L w (tr.1, tr.2.1, hs) bf H' ∧ FR (fun q => (ow q).1 = L + 2) H H' := by
  obtain ⟨ow', e1, e2, hD, hF⟩ := hG
  have hN : ∀ z, z < H.size → (ow z).1 ≠ L + 2 → H'[z]? = H[z]? := hF.2
  exact ⟨ow', e1, e2, ⟨db, dh, bd, pk1 hO (hN w (plt hO) (by rw [how]; show L ≠ L + 2; omega)), hdb.kept low hBF (fun z h9 h8 => hN z h9 (by omega)) e1, hD, pk1 hbd (hN bd (plt hbd) (by rw [hob]; show L ≠ L + 2; omega)), by rw [e1 w (plt hO)]; exact how, by rw [e1 bd (plt hbd)]; exact hob, g1, g2⟩, hF⟩
/-- what a writer of the fixings says of the office -/
theorem XRx.fix {E : ET} {ow : Nat → Nat × Nat} {x q fd bk : Nat} {wa : Nat → Nat} {h0 h1 fx gx : Dy} {ts : List TR} {H H' : Heap} (h : XRx E ow x q fd bk wa h0 h1 fx ts H) (low : ∀ q, q < eB E → H'[q]? = H[q]?) (hBF : eF E < eB E) (hG : DOut E ow 1 fd gx H H') : XOut E ow x h0 h1 gx ts H H' ∧ ∃ ow', DRo E ow' 1 fd gx H' := by
  obtain ⟨ow', e1, e2, hD', hF⟩ := hG
  obtain ⟨hO, hC, hD, hL, hT, hx, hg⟩ := h
  have hN : ∀ z, z < H.size → (ow z).1 ≠ 1 → H'[z]? = H[z]? := hF.2
  refine ⟨⟨ow', e1, fun z hz => by rw [e2 z hz]; decide, ⟨q, fd, bk, wa, pk1 hO (hN x (plt hO) (by rw [hx]; decide)), hC.kept low hBF (fun z h9 h8 => hN z h9 (by omega)) e1, hD', hL.kept low hBF (fun z h9 h8 => hN z h9 (by rcases h8 with e | e <;> (rw [e]; decide))) e1, fun t tr ht => (hT t tr ht).kept low hBF (fun z h9 h8 => hN z h9 (by omega)) e1, by rw [e1 x (plt hO)]; exact hx, hg⟩, ⟨hF.1, fun z h9 h8 => hN z h9 (fun e => h8 (by show (ow z).1 ≠ 4; rw [e]; decide))⟩⟩, ow', hD'⟩
theorem XRx.out {E : ET} {ow ow' : Nat → Nat × Nat} {x q fd bk t : Nat} {wa : Nat → Nat} {h0 h1 fx : Dy} {ts : List TR} {H H' : Heap} (h : XRx E ow' x q fd bk wa h0 h1 fx ts H') (e1 : ∀ q, q < H.size → ow' q = ow q) (e2 : ∀ q, H.size ≤ q → (ow' q).1 ≠ 4) (hz : H.size ≤ H'.size) (hF : ∀ q, q < H.size → ¬ (10 + 3 * t ≤ (ow q).1 ∧ (ow q).1 ≤ 10 + 3 * t + 2) → H'[q]? = H[q]?) : XOut E ow x h0 h1 fx ts H H' :=
  ⟨ow', e1, e2, h.R, ⟨hz, fun z h9 h8 => hF z h9 (fun e => h8 (by show (ow z).1 ≠ 4; omega))⟩⟩
theorem va_S.low {E : ET} {s : State} {H H1 : Heap} {L : List Loc} (hS : va_S (fr E) s.heap H1 L) (hH : s.heap = H) (hB : eB E ≤ s.heap.size) : ∀ q, q < eB E → H1[q]? = H[q]? := fun z hz => by
  rw [← hH]
  exact hS.2.1 z (Nat.lt_of_lt_of_le hz hB) (Nat.not_le.mpr hz)
def cdFix (fx : Dy) (d r : Int32) : Nat := if inB d 0 3000 && inB r (-500) 2000 then (if decide (60 ≤ fx.length) && !dHas fx d then 2 else 0) else 1
def xnF : Nat → String
  | 1 => xA
  | _ => xS
def cdSet (ts : List TR) (t sp dc co : Int32) : Nat := match trd ts t with
  | none => 1
  | some tr => if inB sp (-500) 500 && (inB dc 0 1 && inB co 0 2) then (if 0 < tr.2.1.length then 3 else 0) else 2
def cdBrk (ts : List TR) (t d lo : Int32) : Nat := match trd ts t with
  | none => 1
  | some tr => if inB d 0 3000 && inB lo 1 1000 then (if rstS tr.1 tr.2.1 < lo then 3 else 0) else 2
def cdHnd (ts : List TR) (t d pa : Int32) : Nat := match trd ts t with
  | none => 1
  | some tr => if inB pa 0 3 then (if inB d 0 3000 then (if 10 ≤ tr.2.2.length then 3 else 0) else 2) else 1
def setT (T : Nat → Int32) (sp dc co : Int32) : Nat → Int32 := fun k => if k = 7 then sp else if k = 8 then dc else if k = 9 then co else T k
theorem bfC_set (h0 h1 : Dy) (T : Nat → Int32) (sp dc co : Int32) : bfC h0 h1 (setT T sp dc co) = bfC h0 h1 T := rfl
theorem dPut_len {es : Dy} {d v : Int32} : (dPut es d v).length = if dHas es d then es.length else es.length + 1 := by
  unfold dPut dHas
  cases ixL d 0 es with
  | none => simp
  | some j => simp
theorem LRo.same {E : ET} {ow ow' : Nat → Nat × Nat} {L a c : Nat} {ad : Nat → Nat} {H : Heap} (h : LRo E ow L a c ad H) (hw : ∀ q, q < H.size → ow' q = ow q) : LRo E ow' L a c ad H := by
  obtain ⟨mo, arr, n, f, hO, hA, h1, h2, h3, h4, h5, h6⟩ := h
  exact ⟨mo, arr, n, f, hO, hA, h1, h2, h3, by rw [hw a (plt hO)]; exact h4, h5, h6.imp id (fun g => ⟨by rw [hw arr hA.lt]; exact g.1, g.2⟩)⟩
theorem DRo.same {E : ET} {ow ow' : Nat → Nat × Nat} {L d : Nat} {es : Dy} {H : Heap} (h : DRo E ow L d es H) (hw : ∀ q, q < H.size → ow' q = ow q) : DRo E ow' L d es H := by
  obtain ⟨a, ad, hO, hL, hEs, h1, h2⟩ := h
  exact ⟨a, ad, hO, hL.same hw, fun i x hx => ⟨(hEs i x hx).1, by rw [hw _ (plt (hEs i x hx).1)]; exact (hEs i x hx).2.1, (hEs i x hx).2.2⟩, by rw [hw d (plt hO)]; exact h1, h2⟩
theorem XR.lab {E : ET} {ow : Nat → Nat × Nat} {x : Nat} {y : Nat × Nat} {h0 h1 fx : Dy} {ts : List TR} {H H1 : Heap} (h : XR E ow x h0 h1 fx ts H1) (_hz : H.size ≤ H1.size) (hz : H1.size ≤ H.size) : XR E (owx ow H y) x h0 h1 fx ts H1 := by
  have hw : ∀ q, q < H1.size → owx ow H y q = ow q := fun q hq => owx_old (by omega)
  obtain ⟨q, fd, bk, wa, hO, ⟨d0, d1, c1, c2, c3, c4, c5⟩, hD, hL, hT, hx, hg⟩ := h
  have K : ∀ {L d : Nat} {es : Dy}, DRo E ow L d es H1 → DRo E (owx ow H y) L d es H1 := fun hd => hd.same hw
  refine ⟨q, fd, bk, wa, hO, ⟨d0, d1, c1, K c2, K c3, by rw [hw q (plt c1)]; exact c4, c5⟩, K hD, hL.same hw, fun t tr ht => ?_, by rw [hw x (plt hO)]; exact hx, hg⟩
  obtain ⟨db, dh, bd, s1, s2, s3, s4, s5, s6, s7, s8⟩ := hT t tr ht
  exact ⟨db, dh, bd, s1, K s2, K s3, s4, by rw [hw _ (plt s1)]; exact s5, by rw [hw _ (plt s4)]; exact s6, s7, s8⟩
set_option maxRecDepth 100000 in
set_option maxHeartbeats 4000000 in
/-- fix -/
theorem c_xfix (E : ET) (ow : Nat → Nat × Nat) (x : Nat) (h0 h1 fx : Dy) (ts : List TR) (d r : Int32) (H : Heap) (hX : XR E ow x h0 h1 fx ts H) (hV : SV h0 h1 fx ts) (hK : BL ts)  : XCon E yX4_fix cX4_fix 3 (some FieldType.int) 10 4 (30 + 2 * fx.length) [.ref x, .int d, .int r] H (fun v H' => (cdFix fx d r = 0 ∧ v = some (.int (nI (dPut fx d r).length))) ∧ XOut E ow x h0 h1 (dPut fx d r) ts H H') (fun X => cdFix fx d r ≠ 0 ∧ X = xnF (cdFix fx d r)) := by
  refine XCon.of (C := RX4) rfl (by decide +kernel) (Nat.le_of_ble_eq_true rfl) ?_
  intro p e s m below meth co ls hx hb hr hlk hml hown hts hxt hE hH hS hl
  have hl : lv_has ls 3 [(0, .ref x), (1, .int d), (2, .int r)] := hl
  have hB : eB E ≤ s.heap.size := by rw [hH]; exact hE.2.1
  have hE0 : EV E s s.heap := by rw [hH]; exact hE
  obtain ⟨q, fd, bk, wa, hX2⟩ := hX.x
  obtain ⟨hC, hD, hL, hT⟩ := hX2.rd hV hK
  have hO := hX2.1
  have hBF := hE.2.2.1
  have hfl := hV.2.2.2.2.2.1
  refine lv_iload_n hx hb dX4_fix_0 rfl (lv_at hl 1 rfl) ?_
  refine lv_iconst (v := 0) hx hb dX4_fix_1 (by decide) ?_
  refine lv_sipush (v := 3000) hx hb dX4_fix_2 (by decide) ?_
  refine xSc hx hb hml hlk hxt hts hown hB hE hH hS kwX4_37 (c_crange E d 0 3000 H) (fun X h => by have e9 : cdFix fx d r = 1 := (by unfold cdFix; rw [h.2]; rfl); rw [e9]; exact ⟨by decide, h.1⟩) (Nat.le_of_ble_eq_true rfl) rfl hl.1 rfl (Nat.le_of_ble_eq_true rfl) (by omega) (by omega) dX4_fix_5 (fun v1 H1 L1 ho1 hz1 hE hS => ?_)
  obtain ⟨g1, hv1, hh1⟩ := ho1
  subst hv1
  have hh1 := hh1.symm
  subst hh1
  dsimp only [Option.toList, List.nil_append, List.cons_append]
  refine lv_iload_n hx hb dX4_fix_8 rfl (lv_at hl 2 rfl) ?_
  refine lv_sipush (v := (-500)) hx hb dX4_fix_9 (by decide) ?_
  refine lv_sipush (v := 2000) hx hb dX4_fix_12 (by decide) ?_
  refine xSc hx hb hml hlk hxt hts hown hB hE hH hS kwX4_37 (c_crange E r (-500) 2000 H) (fun X h => by have e9 : cdFix fx d r = 1 := (by unfold cdFix; rw [g1, h.2]; rfl); rw [e9]; exact ⟨by decide, h.1⟩) (Nat.le_of_ble_eq_true rfl) rfl hl.1 rfl (Nat.le_of_ble_eq_true rfl) (by omega) (by omega) dX4_fix_15 (fun v2 H2 L2 ho2 hz2 hE hS => ?_)
  obtain ⟨g2, hv2, hh2⟩ := ho2
  subst hv2
  have hh2 := hh2.symm
  subst hh2
  dsimp only [Option.toList, List.nil_append, List.cons_append]
  obtain ⟨a9, ad9, hD9⟩ := hD
  have hD0 := hD9.1
  refine lv_aload_n hx hb dX4_fix_18 rfl (lv_at hl 0 rfl) ?_
  refine gf hx hb hts hown hE lkX4_19 hO rfl dX4_fix_19 ?_
  refine pV hx hb hml hts hown hE kwX4_45 (c_count E fd a9 ad9 fx H hD9) hD0 rfl (Nat.le_of_ble_eq_true rfl) rfl hl.1 rfl (Nat.le_of_ble_eq_true rfl) (by omega) (by omega) dX4_fix_22 ?_
  refine lv_bipush (v := 60) hx hb dX4_fix_25 (by decide) ?_
  refine lv_icmp_lt (tgt := 51) hx hb dX4_fix_27 (by decide) (fun c1 => ?_) (fun c1 => ?_)
  · have c2 : fx.length < 60 := by
      rcases Nat.lt_or_ge fx.length 60 with q9 | q9
      · exact q9
      · exact absurd c1 (nI_nlt (a := fx.length) (b := 60) q9 (by omega))
    have hcd : cdFix fx d r = 0 := by unfold cdFix; rw [g1, g2]; simp [Nat.not_le.mpr c2]
    refine lv_aload_n hx hb dX4_fix_51 rfl (lv_at hl 0 rfl) ?_
    refine gf hx hb hts hown hE lkX4_19 hO rfl dX4_fix_52 ?_
    refine lv_iload_n hx hb dX4_fix_55 rfl (lv_at hl 1 rfl) ?_
    refine lv_iload_n hx hb dX4_fix_56 rfl (lv_at hl 2 rfl) ?_
    refine gVU hx hb hml hts hown hB hE hS kwX4_74 (c_dput E ow 1 fd fx d r H hX2.2.2.1 (by omega)) hD0 rfl (Nat.le_of_ble_eq_true rfl) rfl hl.1 rfl (Nat.le_of_ble_eq_true rfl) (by omega) (by omega) dX4_fix_57 (fun H3 L3 hG hz3 hE hS => ?_)
    obtain ⟨hXo, ow9, hD8⟩ := hX2.fix (hS.low hH hB) hBF hG
    have hO9 := hX2.1
    have hN9 := hG
    obtain ⟨ow7, -, -, -, hF7⟩ := hN9
    have hO := hF7.at hO9 (by rw [hX2.2.2.2.2.2.1]; decide)
    have hlen : (dPut fx d r).length ≤ 61 := by rw [dPut_len]; split <;> omega
    obtain ⟨a8, ad8, hD8⟩ := hD8.DR (by omega)
    have hD7 := hD8.1
    refine lv_aload_n hx hb dX4_fix_60 rfl (lv_at hl 0 rfl) ?_
    refine gf hx hb hts hown hE lkX4_19 hO rfl dX4_fix_61 ?_
    refine pV hx hb hml hts hown hE kwX4_45 (c_count E fd a8 ad8 (dPut fx d r) H3 hD8) hD7 rfl (Nat.le_of_ble_eq_true rfl) rfl hl.1 rfl (Nat.le_of_ble_eq_true rfl) (by omega) (by omega) dX4_fix_64 ?_
    exact vx_ret (cI hx hb hr hlk hB hS (by omega) (by omega) (⟨⟨hcd, rfl⟩, hXo⟩) dX4_fix_67)
  · have c2 : 60 ≤ fx.length := by
      rcases Nat.lt_or_ge fx.length 60 with q9 | q9
      · exact absurd (nI_lt (a := fx.length) (b := 60) q9 (by decide)) c1
      · exact q9
    refine lv_aload_n hx hb dX4_fix_30 rfl (lv_at hl 0 rfl) ?_
    refine gf hx hb hts hown hE lkX4_19 hO rfl dX4_fix_31 ?_
    refine lv_iload_n hx hb dX4_fix_34 rfl (lv_at hl 1 rfl) ?_
    refine pV hx hb hml hts hown hE kwX4_49 (c_has E fd a9 ad9 fx d H hD9) hD0 rfl (Nat.le_of_ble_eq_true rfl) rfl hl.1 rfl (Nat.le_of_ble_eq_true rfl) (by omega) (by omega) dX4_fix_35 ?_
    cases c3 : dHas fx d with
    | true =>
      refine lv_if_ne (tgt := 51) hx hb dX4_fix_38 (by decide) (fun c4 => ?_) (fun c4 => ?_)
      rotate_left
      · exact absurd c4 (by decide)
      have hcd : cdFix fx d r = 0 := by unfold cdFix; rw [g1, g2]; simp [c3]
      refine lv_aload_n hx hb dX4_fix_51 rfl (lv_at hl 0 rfl) ?_
      refine gf hx hb hts hown hE lkX4_19 hO rfl dX4_fix_52 ?_
      refine lv_iload_n hx hb dX4_fix_55 rfl (lv_at hl 1 rfl) ?_
      refine lv_iload_n hx hb dX4_fix_56 rfl (lv_at hl 2 rfl) ?_
      refine gVU hx hb hml hts hown hB hE hS kwX4_74 (c_dput E ow 1 fd fx d r H hX2.2.2.1 (by omega)) hD0 rfl (Nat.le_of_ble_eq_true rfl) rfl hl.1 rfl (Nat.le_of_ble_eq_true rfl) (by omega) (by omega) dX4_fix_57 (fun H3 L3 hG hz3 hE hS => ?_)
      obtain ⟨hXo, ow9, hD8⟩ := hX2.fix (hS.low hH hB) hBF hG
      have hO9 := hX2.1
      have hN9 := hG
      obtain ⟨ow7, -, -, -, hF7⟩ := hN9
      have hO := hF7.at hO9 (by rw [hX2.2.2.2.2.2.1]; decide)
      have hlen : (dPut fx d r).length ≤ 61 := by rw [dPut_len]; split <;> omega
      obtain ⟨a8, ad8, hD8⟩ := hD8.DR (by omega)
      have hD7 := hD8.1
      refine lv_aload_n hx hb dX4_fix_60 rfl (lv_at hl 0 rfl) ?_
      refine gf hx hb hts hown hE lkX4_19 hO rfl dX4_fix_61 ?_
      refine pV hx hb hml hts hown hE kwX4_45 (c_count E fd a8 ad8 (dPut fx d r) H3 hD8) hD7 rfl (Nat.le_of_ble_eq_true rfl) rfl hl.1 rfl (Nat.le_of_ble_eq_true rfl) (by omega) (by omega) dX4_fix_64 ?_
      exact vx_ret (cI hx hb hr hlk hB hS (by omega) (by omega) (⟨⟨hcd, rfl⟩, hXo⟩) dX4_fix_67)
    | false =>
      refine lv_if_ne (tgt := 51) hx hb dX4_fix_38 (by decide) (fun c4 => ?_) (fun c4 => ?_)
      · exact absurd (by decide) c4
      have hcd : cdFix fx d r = 2 := by unfold cdFix; rw [g1, g2]; simp [c2, c3]
      exact tS (is := 72) (text := "no room for another fixing") hx hb hml hlk hxt hts hown hE0 hH hS txS (by decide) (by rw [hcd]; exact ⟨by decide, rfl⟩) hl.1 (Nat.le_of_ble_eq_true rfl) (Nat.le_of_ble_eq_true rfl) (by omega) (by omega) dX4_fix_41 dX4_fix_44 dX4_fix_45 dX4_fix_47 dX4_fix_50

set_option maxRecDepth 100000 in
set_option maxHeartbeats 4000000 in
/-- breakPart -/
theorem c_xbrk (E : ET) (ow : Nat → Nat × Nat) (x : Nat) (h0 h1 fx : Dy) (ts : List TR) (t d lo : Int32) (M : Nat) (H : Heap) (hX : XR E ow x h0 h1 fx ts H) (hV : SV h0 h1 fx ts) (hK : BL ts) (hM : ∀ tr ∈ ts, tr.2.1.length ≤ M) (hM5 : M ≤ 5000) : XCon E yX4_breakPart cX4_breakPart 5 (some FieldType.int) 10 6 (60 + 2 * M) [.ref x, .int t, .int d, .int lo] H (fun v H' => (∃ tr i, i < ts.length ∧ t = nI i ∧ trd ts t = some tr ∧ ts[i]? = some tr ∧ cdBrk ts t d lo = 0 ∧ v = some (.int (nI (tr.2.1.length + 1))) ∧ XOut E ow x h0 h1 fx (ts.set i (tr.1, tr.2.1 ++ [(d, lo)], tr.2.2)) H H')) (fun X => cdBrk ts t d lo ≠ 0 ∧ X = xn2 (cdBrk ts t d lo)) := by
  refine XCon.of (C := RX4) rfl (by decide +kernel) (Nat.le_of_ble_eq_true rfl) ?_
  intro p e s m below meth co ls hx hb hr hlk hml hown hts hxt hE hH hS hl
  have hl : lv_has ls 5 [(0, .ref x), (1, .int t), (2, .int d), (3, .int lo)] := hl
  have hB : eB E ≤ s.heap.size := by rw [hH]; exact hE.2.1
  have hE0 : EV E s s.heap := by rw [hH]; exact hE
  obtain ⟨q, fd, bk, wa, hX2⟩ := hX.x
  obtain ⟨hC, hD, hL, hT⟩ := hX2.rd hV hK
  have hO := hX2.1
  have hBF := hE.2.2.1
  refine lv_aload_n hx hb dX4_breakPart_0 rfl (lv_at hl 0 rfl) ?_
  refine lv_iload_n hx hb dX4_breakPart_1 rfl (lv_at hl 1 rfl) ?_
  refine xVc hx hb hml hlk hxt hts hown hB hE hH hS kwX4_102 (c_swapAt E ow x q fd bk wa ts t H hO hL hV.tn (fun i hi => by obtain ⟨tr, ht⟩ := getq hi; obtain ⟨db, dh, bd, h9⟩ := hT i tr ht; exact ⟨_, h9.1⟩)) (fun X h => by have e9 : cdBrk ts t d lo = 1 := (by unfold cdBrk; rw [trd_no h.2]); rw [e9]; exact ⟨by decide, h.1⟩) hO rfl (Nat.le_of_ble_eq_true rfl) rfl hl.1 rfl (Nat.le_of_ble_eq_true rfl) (by omega) (by omega) dX4_breakPart_2 (fun v1 H1 L1 ho1 hz1 hE hS => ?_)
  obtain ⟨i, hi, et, hv1, hh1⟩ := ho1
  subst hv1
  have hh1 := hh1.symm
  subst hh1
  dsimp only [Option.toList, List.nil_append, List.cons_append]
  obtain ⟨tr, ht⟩ := getq hi
  have hin := hV.tn
  have etr : trd ts t = some tr := by rw [et, trd_nI (by omega)]; exact ht
  obtain ⟨db, dh, bd, hW0, hdb, hdh, hbd, how, hob, gw, gb⟩ := hX2.2.2.2.2.1 i tr ht
  have htv := hV.tv ht
  have hkl := hK tr (List.mem_of_getElem? ht)
  have hhl : tr.2.2.length ≤ 10 := by obtain ⟨pa, lo, f, le, n, -, -, -, -, -, -, -, -, -, -, -, -, -, -, -, -, -, hh⟩ := htv; exact hh
  have hW : SRx E (wa i) tr.1 db dh bd (bfC h0 h1 tr.1) tr.2.1 tr.2.2 H := ⟨hW0, hdb.DR (by omega), hdh.DR (by omega), hbd⟩
  have hml9 := hM tr (List.mem_of_getElem? ht)
  refine lv_astore (lv' := [(4, .ref (wa i)), (0, .ref x), (1, .int t), (2, .int d), (3, .int lo)]) hx hb dX4_breakPart_5 hl (by decide) rfl (fun ls hl => ?_)
  refine lv_iload_n hx hb dX4_breakPart_7 rfl (lv_at hl 3 rfl) ?_
  refine lv_iconst (v := 0) hx hb dX4_breakPart_8 (by decide) ?_
  refine lv_sipush (v := 3000) hx hb dX4_breakPart_9 (by decide) ?_
  refine xSc hx hb hml hlk hxt hts hown hB hE hH hS kwX4_37 (c_crange E d 0 3000 H) (fun X h => by have e9 : cdBrk ts t d lo = 2 := (by unfold cdBrk; rw [etr, h.2]; rfl); rw [e9]; exact ⟨by decide, h.1⟩) (Nat.le_of_ble_eq_true rfl) rfl hl.1 rfl (Nat.le_of_ble_eq_true rfl) (by omega) (by omega) dX4_breakPart_12 (fun v2 H2 L2 ho2 hz2 hE hS => ?_)
  obtain ⟨g1, hv2, hh2⟩ := ho2
  subst hv2
  have hh2 := hh2.symm
  subst hh2
  dsimp only [Option.toList, List.nil_append, List.cons_append]
  refine lv_iload_n hx hb dX4_breakPart_15 rfl (lv_at hl 4 rfl) ?_
  refine lv_iconst (v := 1) hx hb dX4_breakPart_16 (by decide) ?_
  refine lv_sipush (v := 1000) hx hb dX4_breakPart_17 (by decide) ?_
  refine xSc hx hb hml hlk hxt hts hown hB hE hH hS kwX4_37 (c_crange E lo 1 1000 H) (fun X h => by have e9 : cdBrk ts t d lo = 2 := (by unfold cdBrk; rw [etr, g1, h.2]; rfl); rw [e9]; exact ⟨by decide, h.1⟩) (Nat.le_of_ble_eq_true rfl) rfl hl.1 rfl (Nat.le_of_ble_eq_true rfl) (by omega) (by omega) dX4_breakPart_20 (fun v3 H3 L3 ho3 hz3 hE hS => ?_)
  obtain ⟨g2, hv3, hh3⟩ := ho3
  subst hv3
  have hh3 := hh3.symm
  subst hh3
  dsimp only [Option.toList, List.nil_append, List.cons_append]
  refine lv_aload hx hb dX4_breakPart_23 (lv_at hl 0 rfl) ?_
  refine pV hx hb hml hts hown hE kwX4_121 (c_rest E (wa i) tr.1 db dh bd (bfC h0 h1 tr.1) tr.2.1 tr.2.2 H hW) hW0 rfl (Nat.le_of_ble_eq_true rfl) rfl hl.1 rfl (Nat.le_of_ble_eq_true rfl) (by omega) (by omega) dX4_breakPart_25 ?_
  refine lv_iload_n hx hb dX4_breakPart_28 rfl (lv_at hl 4 rfl) ?_
  refine lv_icmp_ge (tgt := 42) hx hb dX4_breakPart_29 (by decide) (fun c1 => ?_) (fun c1 => ?_)
  · have hcd : cdBrk ts t d lo = 0 := by unfold cdBrk; rw [etr]; simp only; rw [g1, g2]; simp only [Bool.and_self, if_true]; exact if_neg (Int32.not_lt.mpr c1)
    obtain ⟨a9, ad9, hD8, -⟩ := hdb.DRx (by omega)
    have hD0 := hD8.1
    refine lv_aload hx hb dX4_breakPart_42 (lv_at hl 0 rfl) ?_
    refine gf hx hb hts hown hE lkX4_106 hW0 rfl dX4_breakPart_44 ?_
    refine lv_iload_n hx hb dX4_breakPart_47 rfl (lv_at hl 3 rfl) ?_
    refine lv_iload_n hx hb dX4_breakPart_48 rfl (lv_at hl 4 rfl) ?_
    refine gVU hx hb hml hts hown hB hE hS kwX4_58 (c_dadd E ow (10 + 3 * i + 1) db tr.2.1 d lo H hdb (by omega)) hD0 rfl (Nat.le_of_ble_eq_true rfl) rfl hl.1 rfl (Nat.le_of_ble_eq_true rfl) (by omega) (by omega) dX4_breakPart_49 (fun H4 L4 hG hz4 hE hS => ?_)
    obtain ⟨ow9, e1, e2, hSn, hFn⟩ := SRo.brk hW0 hdh hbd how hob gw gb (hS.low hH hB) hBF hG
    have hN : ∀ z, z < H.size → ¬ (10 + 3 * i ≤ (ow z).1 ∧ (ow z).1 ≤ 10 + 3 * i + 2) → H4[z]? = H[z]? := fun z h9 h8 => hFn.2 z h9 (fun e => h8 (by have e : (ow z).1 = _ := e; omega))
    have hX3 := hX2.swp ht hSn hN (hS.low hH hB) hBF e1
    have hXo := hX3.out (t := i) e1 (fun z h9 => by rw [e2 z h9]; omega) hFn.1 hN
    obtain ⟨db2, dh2, bd2, hW2, hdb2, -⟩ := id hSn
    obtain ⟨a7, ad7, hD7, -⟩ := hdb2.DRx (by rw [List.length_append]; show tr.2.1.length + 1 < _; omega)
    have hD6 := hD7.1
    refine lv_aload hx hb dX4_breakPart_52 (lv_at hl 0 rfl) ?_
    refine gf hx hb hts hown hE lkX4_106 hW2 rfl dX4_breakPart_54 ?_
    refine pV hx hb hml hts hown hE kwX4_45 (c_count E db2 a7 ad7 (tr.2.1 ++ [(d, lo)]) H4 hD7) hD6 rfl (Nat.le_of_ble_eq_true rfl) rfl hl.1 rfl (Nat.le_of_ble_eq_true rfl) (by omega) (by omega) dX4_breakPart_57 ?_
    exact vx_ret (cI hx hb hr hlk hB hS (by omega) (by omega) (⟨tr, i, hi, et, etr, ht, hcd, by rw [List.length_append]; rfl, hXo⟩) dX4_breakPart_60)
  · have hcd : cdBrk ts t d lo = 3 := by unfold cdBrk; rw [etr]; simp only; rw [g1, g2]; simp only [Bool.and_self, if_true]; exact if_pos (Int32.not_le.mp c1)
    exact tS (is := 124) (text := "the rest of the trade is less than that") hx hb hml hlk hxt hts hown hE0 hH hS txS (by decide) (by rw [hcd]; exact ⟨by decide, rfl⟩) hl.1 (Nat.le_of_ble_eq_true rfl) (Nat.le_of_ble_eq_true rfl) (by omega) (by omega) dX4_breakPart_32 dX4_breakPart_35 dX4_breakPart_36 dX4_breakPart_38 dX4_breakPart_41

set_option maxRecDepth 100000 in
set_option maxHeartbeats 4000000 in
/-- handOver -/
theorem c_xhnd (E : ET) (ow : Nat → Nat × Nat) (x : Nat) (h0 h1 fx : Dy) (ts : List TR) (t d pa : Int32) (H : Heap) (hX : XR E ow x h0 h1 fx ts H) (hV : SV h0 h1 fx ts) (hK : BL ts)  : XCon E yX4_handOver cX4_handOver 6 (some FieldType.int) 10 6 80 [.ref x, .int t, .int d, .int pa] H (fun v H' => (∃ tr i, i < ts.length ∧ t = nI i ∧ trd ts t = some tr ∧ ts[i]? = some tr ∧ cdHnd ts t d pa = 0 ∧ v = some (.int (hldS tr.1 tr.2.2 d)) ∧ XOut E ow x h0 h1 fx (ts.set i (tr.1, tr.2.1, tr.2.2 ++ [(d, pa)])) H H')) (fun X => cdHnd ts t d pa ≠ 0 ∧ X = xn2 (cdHnd ts t d pa)) := by
  refine XCon.of (C := RX4) rfl (by decide +kernel) (Nat.le_of_ble_eq_true rfl) ?_
  intro p e s m below meth co ls hx hb hr hlk hml hown hts hxt hE hH hS hl
  have hl : lv_has ls 6 [(0, .ref x), (1, .int t), (2, .int d), (3, .int pa)] := hl
  have hB : eB E ≤ s.heap.size := by rw [hH]; exact hE.2.1
  have hE0 : EV E s s.heap := by rw [hH]; exact hE
  obtain ⟨q, fd, bk, wa, hX2⟩ := hX.x
  obtain ⟨hC, hD, hL, hT⟩ := hX2.rd hV hK
  have hO := hX2.1
  have hBF := hE.2.2.1
  refine lv_aload_n hx hb dX4_handOver_0 rfl (lv_at hl 0 rfl) ?_
  refine lv_iload_n hx hb dX4_handOver_1 rfl (lv_at hl 1 rfl) ?_
  refine xVc hx hb hml hlk hxt hts hown hB hE hH hS kwX4_102 (c_swapAt E ow x q fd bk wa ts t H hO hL hV.tn (fun i hi => by obtain ⟨tr, ht⟩ := getq hi; obtain ⟨db, dh, bd, h9⟩ := hT i tr ht; exact ⟨_, h9.1⟩)) (fun X h => by have e9 : cdHnd ts t d pa = 1 := (by unfold cdHnd; rw [trd_no h.2]); rw [e9]; exact ⟨by decide, h.1⟩) hO rfl (Nat.le_of_ble_eq_true rfl) rfl hl.1 rfl (Nat.le_of_ble_eq_true rfl) (by omega) (by omega) dX4_handOver_2 (fun v1 H1 L1 ho1 hz1 hE hS => ?_)
  obtain ⟨i, hi, et, hv1, hh1⟩ := ho1
  subst hv1
  have hh1 := hh1.symm
  subst hh1
  dsimp only [Option.toList, List.nil_append, List.cons_append]
  obtain ⟨tr, ht⟩ := getq hi
  have hin := hV.tn
  have etr : trd ts t = some tr := by rw [et, trd_nI (by omega)]; exact ht
  obtain ⟨db, dh, bd, hW0, hdb, hdh, hbd, how, hob, gw, gb⟩ := hX2.2.2.2.2.1 i tr ht
  have htv := hV.tv ht
  have hkl := hK tr (List.mem_of_getElem? ht)
  have hhl : tr.2.2.length ≤ 10 := by obtain ⟨pa, lo, f, le, n, -, -, -, -, -, -, -, -, -, -, -, -, -, -, -, -, -, hh⟩ := htv; exact hh
  have hW : SRx E (wa i) tr.1 db dh bd (bfC h0 h1 tr.1) tr.2.1 tr.2.2 H := ⟨hW0, hdb.DR (by omega), hdh.DR (by omega), hbd⟩
  refine lv_astore (lv' := [(4, .ref (wa i)), (0, .ref x), (1, .int t), (2, .int d), (3, .int pa)]) hx hb dX4_handOver_5 hl (by decide) rfl (fun ls hl => ?_)
  refine lv_iload_n hx hb dX4_handOver_7 rfl (lv_at hl 4 rfl) ?_
  refine xSc hx hb hml hlk hxt hts hown hB hE hH hS kwX4_81 (c_cparty E pa H) (fun X h => by have e9 : cdHnd ts t d pa = 1 := (by unfold cdHnd; rw [etr]; simp only; rw [h.2]; rfl); rw [e9]; exact ⟨by decide, h.1⟩) (Nat.le_of_ble_eq_true rfl) rfl hl.1 rfl (Nat.le_of_ble_eq_true rfl) (by omega) (by omega) dX4_handOver_8 (fun v2 H2 L2 ho2 hz2 hE hS => ?_)
  obtain ⟨g1, hv2, hh2⟩ := ho2
  subst hv2
  have hh2 := hh2.symm
  subst hh2
  dsimp only [Option.toList, List.nil_append, List.cons_append]
  refine lv_iload_n hx hb dX4_handOver_11 rfl (lv_at hl 3 rfl) ?_
  refine lv_iconst (v := 0) hx hb dX4_handOver_12 (by decide) ?_
  refine lv_sipush (v := 3000) hx hb dX4_handOver_13 (by decide) ?_
  refine xSc hx hb hml hlk hxt hts hown hB hE hH hS kwX4_37 (c_crange E d 0 3000 H) (fun X h => by have e9 : cdHnd ts t d pa = 2 := (by unfold cdHnd; rw [etr]; simp only; rw [g1, h.2]; rfl); rw [e9]; exact ⟨by decide, h.1⟩) (Nat.le_of_ble_eq_true rfl) rfl hl.1 rfl (Nat.le_of_ble_eq_true rfl) (by omega) (by omega) dX4_handOver_16 (fun v3 H3 L3 ho3 hz3 hE hS => ?_)
  obtain ⟨g2, hv3, hh3⟩ := ho3
  subst hv3
  have hh3 := hh3.symm
  subst hh3
  dsimp only [Option.toList, List.nil_append, List.cons_append]
  obtain ⟨a9, ad9, hD9⟩ := hW.2.2.1
  have hD0 := hD9.1
  refine lv_aload hx hb dX4_handOver_19 (lv_at hl 0 rfl) ?_
  refine gf hx hb hts hown hE lkX4_126 hW0 rfl dX4_handOver_21 ?_
  refine pV hx hb hml hts hown hE kwX4_45 (c_count E dh a9 ad9 tr.2.2 H hD9) hD0 rfl (Nat.le_of_ble_eq_true rfl) rfl hl.1 rfl (Nat.le_of_ble_eq_true rfl) (by omega) (by omega) dX4_handOver_24 ?_
  refine lv_bipush (v := 10) hx hb dX4_handOver_27 (by decide) ?_
  refine lv_icmp_lt (tgt := 42) hx hb dX4_handOver_29 (by decide) (fun c1 => ?_) (fun c1 => ?_)
  · have c2 : tr.2.2.length < 10 := by
      rcases Nat.lt_or_ge tr.2.2.length 10 with q9 | q9
      · exact q9
      · exact absurd c1 (nI_nlt (a := tr.2.2.length) (b := 10) q9 (by omega))
    have hcd : cdHnd ts t d pa = 0 := by unfold cdHnd; rw [etr]; simp only; rw [g1, g2]; simp only [if_true]; exact if_neg (Nat.not_le.mpr c2)
    refine lv_aload hx hb dX4_handOver_42 (lv_at hl 0 rfl) ?_
    refine lv_iload_n hx hb dX4_handOver_44 rfl (lv_at hl 3 rfl) ?_
    refine pV hx hb hml hts hown hE kwX4_131 (c_hold E (wa i) tr.1 db dh bd (bfC h0 h1 tr.1) tr.2.1 tr.2.2 d H hW) hW0 rfl (Nat.le_of_ble_eq_true rfl) rfl hl.1 rfl (Nat.le_of_ble_eq_true rfl) (by omega) (by omega) dX4_handOver_45 ?_
    refine lv_istore (lv' := [(5, .int (hldS tr.1 tr.2.2 d)), (4, .ref (wa i)), (0, .ref x), (1, .int t), (2, .int d), (3, .int pa)]) hx hb dX4_handOver_48 hl (by decide) rfl (fun ls hl => ?_)
    refine lv_aload hx hb dX4_handOver_50 (lv_at hl 1 rfl) ?_
    refine gf hx hb hts hown hE lkX4_126 hW0 rfl dX4_handOver_52 ?_
    refine lv_iload_n hx hb dX4_handOver_55 rfl (lv_at hl 4 rfl) ?_
    refine lv_iload_n hx hb dX4_handOver_56 rfl (lv_at hl 5 rfl) ?_
    refine gVU hx hb hml hts hown hB hE hS kwX4_58 (c_dadd E ow (10 + 3 * i + 2) dh tr.2.2 d pa H hdh (by omega)) hD0 rfl (Nat.le_of_ble_eq_true rfl) rfl hl.1 rfl (Nat.le_of_ble_eq_true rfl) (by omega) (by omega) dX4_handOver_57 (fun H4 L4 hG hz4 hE hS => ?_)
    obtain ⟨ow9, e1, e2, hSn, hFn⟩ := SRo.hnd hW0 hdb hbd how hob gw gb (hS.low hH hB) hBF hG
    have hN : ∀ z, z < H.size → ¬ (10 + 3 * i ≤ (ow z).1 ∧ (ow z).1 ≤ 10 + 3 * i + 2) → H4[z]? = H[z]? := fun z h9 h8 => hFn.2 z h9 (fun e => h8 (by have e : (ow z).1 = _ := e; omega))
    have hX3 := hX2.swp ht hSn hN (hS.low hH hB) hBF e1
    have hXo := hX3.out (t := i) e1 (fun z h9 => by rw [e2 z h9]; omega) hFn.1 hN
    refine lv_iload hx hb dX4_handOver_60 (lv_at hl 0 rfl) ?_
    exact vx_ret (cI hx hb hr hlk hB hS (by omega) (by omega) (⟨tr, i, hi, et, etr, ht, hcd, rfl, hXo⟩) dX4_handOver_62)
  · have c2 : 10 ≤ tr.2.2.length := by
      rcases Nat.lt_or_ge tr.2.2.length 10 with q9 | q9
      · exact absurd (nI_lt (a := tr.2.2.length) (b := 10) q9 (by decide)) c1
      · exact q9
    have hcd : cdHnd ts t d pa = 3 := by unfold cdHnd; rw [etr]; simp only; rw [g1, g2]; simp only [if_true]; exact if_pos c2
    exact tS (is := 129) (text := "the trade was handed over too often") hx hb hml hlk hxt hts hown hE0 hH hS txS (by decide) (by rw [hcd]; exact ⟨by decide, rfl⟩) hl.1 (Nat.le_of_ble_eq_true rfl) (Nat.le_of_ble_eq_true rfl) (by omega) (by omega) dX4_handOver_32 dX4_handOver_35 dX4_handOver_36 dX4_handOver_38 dX4_handOver_41
end
section
theorem inB_nI2 {v lo hi : Int32} {a b : Nat} (h : inB v lo hi = true) (ha : lo = nI a := by decide) (hb : hi = nI b := by decide) (hb2 : b < 2 ^ 31 := by decide) (ha2 : a < 2 ^ 31 := by decide) : ∃ j, a ≤ j ∧ j ≤ b ∧ v = nI j := by
  unfold inB at h
  rw [Bool.and_eq_true, decide_eq_true_eq, decide_eq_true_eq, ha, hb] at h
  obtain ⟨j, hj, e⟩ := nI_of (Int32.not_lt.mpr (Int32.le_trans (nI_pos' ha2) h.1))
  subst e
  exact ⟨j, (nI_leI ha2 hj).mp h.1, (nI_leI hj hb2).mp h.2, rfl⟩
theorem inB01 {v : Int32} (h : inB v 0 1 = true) : v = 0 ∨ v = 1 := by
  obtain ⟨j, -, h2, e⟩ := inB_nI2 (a := 0) (b := 1) h
  rcases (show j = 0 ∨ j = 1 by omega) with rfl | rfl
  · exact Or.inl e
  · exact Or.inr e
/-- the office while its trades still have the days of another calendar -/
def XRg (E : ET) (ow : Nat → Nat × Nat) (x q fd bk : Nat) (wa : Nat → Nat) (g0 g1 h0 h1 fx : Dy) (ts : List TR) (H : Heap) : Prop := OB E 5 [.ref q, .ref fd, .ref bk] x H ∧ CRo E ow q h0 h1 H ∧ DRo E ow 1 fd fx H ∧ LRo E ow 5 bk ts.length wa H ∧ (∀ t tr, ts[t]? = some tr → SRo E ow (10 + 3 * t) (wa t) tr (bfC g0 g1 tr.1) H) ∧ ow x = (0, 0) ∧ eB E ≤ x
theorem XRx.hol {E : ET} {ow ow' : Nat → Nat × Nat} {x q fd bk L : Nat} {wa : Nat → Nat} {h0 h1 k0 k1 fx : Dy} {ts : List TR} {H H' : Heap} (h : XRx E ow x q fd bk wa h0 h1 fx ts H) (hL : L = 2 ∨ L = 3) (hC : CRo E ow' q k0 k1 H') (low : ∀ q, q < eB E → H'[q]? = H[q]?) (hBF : eF E < eB E) (e1 : ∀ q, q < H.size → ow' q = ow q) (hF : FR (fun z => (ow z).1 = L) H H') : XRg E ow' x q fd bk wa h0 h1 k0 k1 fx ts H' := by
  obtain ⟨hO, -, hD, hLL, hT, hx, hg⟩ := h
  have hN : ∀ z, z < H.size → (ow z).1 ≠ L → H'[z]? = H[z]? := hF.2
  exact ⟨pk1 hO (hN x (plt hO) (by rw [hx]; show 0 ≠ L; omega)), hC, hD.kept low hBF (fun z h9 h8 => hN z h9 (by omega)) e1, hLL.kept low hBF (fun z h9 h8 => hN z h9 (by rcases h8 with e | e <;> (rw [e]; show 5 ≠ L; omega))) e1, fun t tr ht => (hT t tr ht).kept low hBF (fun z h9 h8 => hN z h9 (by omega)) e1, by rw [e1 x (plt hO)]; exact hx, hg⟩
theorem CRo.a0 {E : ET} {ow ow' : Nat → Nat × Nat} {q d0 d1 : Nat} {h1 k0 : Dy} {H H' : Heap} (hq : OB E 1 [.ref d0, .ref d1] q H) (h1' : DRo E ow 3 d1 h1 H) (hk : DRo E ow' 2 d0 k0 H') (how : ow q = (0, 1)) (hg : eB E ≤ q) (low : ∀ q, q < eB E → H'[q]? = H[q]?) (hBF : eF E < eB E) (e1 : ∀ q, q < H.size → ow' q = ow q) (hF : FR (fun z => (ow z).1 = 2) H H') : CRo E ow' q k0 h1 H' :=
  ⟨d0, d1, pk1 hq (hF.2 q (plt hq) (by show ¬ (ow q).1 = 2; rw [how]; decide)), hk, h1'.kept low hBF (fun z h9 h8 => hF.2 z h9 (by show ¬ (ow z).1 = 2; omega)) e1, by rw [e1 q (plt hq)]; exact how, hg⟩
theorem CRo.a1 {E : ET} {ow ow' : Nat → Nat × Nat} {q d0 d1 : Nat} {h0 k1 : Dy} {H H' : Heap} (hq : OB E 1 [.ref d0, .ref d1] q H) (h0' : DRo E ow 2 d0 h0 H) (hk : DRo E ow' 3 d1 k1 H') (how : ow q = (0, 1)) (hg : eB E ≤ q) (low : ∀ q, q < eB E → H'[q]? = H[q]?) (hBF : eF E < eB E) (e1 : ∀ q, q < H.size → ow' q = ow q) (hF : FR (fun z => (ow z).1 = 3) H H') : CRo E ow' q h0 k1 H' :=
  ⟨d0, d1, pk1 hq (hF.2 q (plt hq) (by show ¬ (ow q).1 = 3; rw [how]; decide)), h0'.kept low hBF (fun z h9 h8 => hF.2 z h9 (by show ¬ (ow z).1 = 3; omega)) e1, hk, by rw [e1 q (plt hq)]; exact how, hg⟩
theorem ite_i {α : Type} {t i : Nat} {a b : α} (h : ¬ t = i) : (if t < i + 1 then a else b) = (if t < i then a else b) := by
  by_cases c : t < i
  · rw [if_pos c, if_pos (by omega)]
  · rw [if_neg c, if_neg (by omega)]
def cdHol (h0 h1 : Dy) (town d : Int32) : Nat := if inB town 0 1 then (if inB d 0 3000 then (if decide (20 ≤ (if town = 0 then h0 else h1).length) || dHas (if town = 0 then h0 else h1) d then 3 else 0) else 2) else 1
def cdTrd (ts : List TR) (pa lo fi fs le pe : Int32) : Nat := if inB pa 0 3 then (if inB lo 1 1000 && (inB fi (-500) 2000 && (inB fs 0 1000 && (inB le 5 180 && inB pe 1 10))) then (if 10 ≤ ts.length then 3 else 0) else 2) else 1
theorem TV.t {tr : TR} (h : TV tr) : ∃ f le n : Nat, tr.1 4 = nI f ∧ tr.1 5 = nI le ∧ tr.1 6 = nI n ∧ f ≤ 1000 ∧ le ≤ 180 ∧ n ≤ 10 := by
  obtain ⟨pa, lo, f, le, n, v1, v2, v3, v4, v5, v6, v7, v8, t0, t1, t2, t4, t5, t6, -⟩ := h
  exact ⟨f, le, n, t4, t5, t6, v4, v6, v8⟩
theorem bfC_z {h0 h1 : Dy} {T : Nat → Int32} {n : Nat} (h6 : T 6 = nI n) (hn : n ≤ 10) : ∀ i, n < i → bfC h0 h1 T i = 0 := fun i hi => by
  unfold bfC
  rw [h6, nI_clamp (by omega), if_neg (Nat.not_le.mpr hi)]
/-- the state of the roll behind the trades before i -/
def RJ (E : ET) (ow : Nat → Nat × Nat) (x q fd bk : Nat) (wa : Nat → Nat) (g0 g1 h0 h1 fx : Dy) (ts : List TR) (i : Nat) (H0 H : Heap) : Prop := OB E 5 [.ref q, .ref fd, .ref bk] x H ∧ CRo E ow q h0 h1 H ∧ DRo E ow 1 fd fx H ∧ LRo E ow 5 bk ts.length wa H ∧ (∀ t tr, ts[t]? = some tr → SRo E ow (10 + 3 * t) (wa t) tr (if t < i then bfC h0 h1 tr.1 else bfC g0 g1 tr.1) H) ∧ FR (fun z => 10 ≤ (ow z).1) H0 H ∧ H.size = H0.size
theorem i32_lt2 {v : Int32} : v < 2 ↔ v ≤ 1 := by
  rw [Int32.lt_iff_toInt_lt, Int32.le_iff_toInt_le]
  show v.toInt < 2 ↔ v.toInt ≤ 1
  omega
theorem FR.lab4 {ow ow1 : Nat → Nat × Nat} {L : Nat} {H H1 H2 : Heap} (h : FR (fun z => (ow z).1 = L) H H1) (e1 : ∀ q, q < H.size → ow1 q = ow q) (e2 : ∀ q, H.size ≤ q → (ow1 q).1 = L) (h2 : FR (fun z => 10 ≤ (ow1 z).1) H1 H2) (hL : L ≠ 4 := by decide) : FR (fun z => (ow z).1 ≠ 4) H H2 :=
  ⟨Nat.le_trans h.1 h2.1, fun z hz hn => by
    have hn : ¬ (ow z).1 ≠ 4 := hn
    have e := e1 z hz
    exact (h2.2 z (Nat.lt_of_lt_of_le hz h.1) (by show ¬ 10 ≤ (ow1 z).1; rw [e]; omega)).trans (h.2 z hz (by show ¬ (ow z).1 = L; omega))⟩
set_option maxRecDepth 100000 in
set_option maxHeartbeats 4000000 in
/-- holidaysOf -/
theorem c_hof0 (E : ET) (q d0 d1 : Nat) (H : Heap) (hO : OB E 1 [.ref d0, .ref d1] q H) : PCon E yX0_holidaysOf cX0_holidaysOf 2 (some (FieldType.object "Resetline$Diary")) 1 [.ref q, .int 0] H (some (.ref d0)) := by
  refine PCon.of (C := RX0) rfl (by decide +kernel) (Nat.le_of_ble_eq_true rfl) ?_
  intro p e s m below meth co ls hx hb hr hlk hml hown hts hE hH hl
  have hl : lv_has ls 2 [(0, .ref q), (1, .int 0)] := hl
  refine lv_iload_n hx hb dX0_holidaysOf_0 rfl (lv_at hl 1 rfl) ?_
  refine lv_if_ne (tgt := 11) hx hb dX0_holidaysOf_1 (by decide) (fun c => ?_) (fun c => ?_)
  · exact absurd (by decide) c
  refine lv_aload_n hx hb dX0_holidaysOf_4 rfl (lv_at hl 0 rfl) ?_
  refine gf hx hb hts hown hE lkX0_12 hO rfl dX0_holidaysOf_5 ?_
  refine lv_goto (tgt := 15) hx hb dX0_holidaysOf_8 (by decide) ?_
  exact pA hx hb hr (Or.inl ⟨_, rfl⟩) (Or.inr ⟨_, rfl⟩) hlk hH rfl dX0_holidaysOf_15

set_option maxRecDepth 100000 in
set_option maxHeartbeats 4000000 in
/-- holidaysOf -/
theorem c_hof1 (E : ET) (q d0 d1 : Nat) (H : Heap) (hO : OB E 1 [.ref d0, .ref d1] q H) : PCon E yX0_holidaysOf cX0_holidaysOf 2 (some (FieldType.object "Resetline$Diary")) 1 [.ref q, .int 1] H (some (.ref d1)) := by
  refine PCon.of (C := RX0) rfl (by decide +kernel) (Nat.le_of_ble_eq_true rfl) ?_
  intro p e s m below meth co ls hx hb hr hlk hml hown hts hE hH hl
  have hl : lv_has ls 2 [(0, .ref q), (1, .int 1)] := hl
  refine lv_iload_n hx hb dX0_holidaysOf_0 rfl (lv_at hl 1 rfl) ?_
  refine lv_if_ne (tgt := 11) hx hb dX0_holidaysOf_1 (by decide) (fun c => ?_) (fun c => ?_)
  rotate_left
  · exact absurd c (by decide)
  refine lv_aload_n hx hb dX0_holidaysOf_11 rfl (lv_at hl 0 rfl) ?_
  refine gf hx hb hts hown hE lkX0_18 hO rfl dX0_holidaysOf_12 ?_
  exact pA hx hb hr (Or.inl ⟨_, rfl⟩) (Or.inr ⟨_, rfl⟩) hlk hH rfl dX0_holidaysOf_15

set_option maxRecDepth 100000 in
set_option maxHeartbeats 4000000 in
/-- rollAllTrades -/
theorem c_xrollall (E : ET) (ow : Nat → Nat × Nat) (x q fd bk : Nat) (wa : Nat → Nat) (g0 g1 h0 h1 fx : Dy) (ts : List TR) (H : Heap) (hX : XRg E ow x q fd bk wa g0 g1 h0 h1 fx ts H) (n0 : h0.length ≤ 20) (n1 : h1.length ≤ 20) (htn : ts.length ≤ 10) (htv : ∀ tr ∈ ts, TV tr) : Con E yX4_rollAllTrades cX4_rollAllTrades 2 (none : Option FieldType) 9 0 0 [.ref x] H (o1 none (fun H' => XRx E ow x q fd bk wa h0 h1 fx ts H' ∧ FR (fun z => 10 ≤ (ow z).1) H H' ∧ H'.size = H.size)) := by
  refine Con.of (C := RX4) rfl (by decide +kernel) (Nat.le_of_ble_eq_true rfl) ?_
  intro p e s m below meth co ls hx hb hr hlk hml hown hts hin hE hH hS hl
  have hl : lv_has ls 2 [(0, .ref x)] := hl
  have hB : eB E ≤ s.heap.size := by rw [hH]; exact hE.2.1
  have hBF := hE.2.2.1
  obtain ⟨-, -, -, -, -, hx0, hgx⟩ := id hX
  have hJ : RJ E ow x q fd bk wa g0 g1 h0 h1 fx ts 0 H H := ⟨hX.1, hX.2.1, hX.2.2.1, hX.2.2.2.1, fun t tr ht => by rw [if_neg (Nat.not_lt_zero t)]; exact hX.2.2.2.2.1 t tr ht, FR.rf, rfl⟩
  refine lv_iconst (v := 0) hx hb dX4_rollAllTrades_0 (by decide) ?_
  refine lv_istore_n (lv' := [(1, .int 0), (0, .ref x)]) hx hb dX4_rollAllTrades_1 rfl hl (by decide) rfl (fun ls hl => ?_)
  have loop : ∀ (r i : Nat) (G : Heap) (locs : List Loc) (ls : Array Slot), i + r = ts.length → RJ E ow x q fd bk wa g0 g1 h0 h1 fx ts i H G → EV E s G → va_S (fr E) s.heap G locs → lv_has ls 2 [(1, .int (nI i)), (0, .ref x)] → W p (eL E) e (rmk 9 0 0) s m ([.ref x]).toArray below meth co G locs 0 0 (MQ below (CQ E (o1 none (fun H' => XRx E ow x q fd bk wa h0 h1 fx ts H' ∧ FR (fun z => 10 ≤ (ow z).1) H H' ∧ H'.size = H.size))) ([.ref x]).toArray s 0 0 (fr E)) (F0 m 2 ls []) := by
    intro r
    induction r with
    | zero =>
      intro i G locs ls hi hJ hE hS hl
      obtain ⟨hO, hC, hD, hL0, hT, hFg, hzg⟩ := hJ
      have hL := hL0.LR (by omega)
      obtain ⟨fs0, hOb, hcl⟩ := hL.ob
      have hi2 : i = ts.length := by omega
      refine lv_iload_n hx hb dX4_rollAllTrades_2 rfl (lv_at hl 0 rfl) ?_
      refine lv_aload_n hx hb dX4_rollAllTrades_3 rfl (lv_at hl 1 rfl) ?_
      refine gf hx hb hts hown hE lkX4_26 hO rfl dX4_rollAllTrades_4 ?_
      refine pV hx hb hml hts hown hE kwX4_85 (c_size E bk ts.length wa G hL) hOb rfl (Nat.le_of_ble_eq_true rfl) rfl hl.1 rfl (Nat.le_of_ble_eq_true rfl) (by omega) (by omega) dX4_rollAllTrades_7 ?_
      refine lv_icmp_ge (tgt := 37) hx hb dX4_rollAllTrades_10 (by decide) (fun c9 => ?_) (fun c9 => ?_)
      rotate_left
      · exact absurd (nI_le (by omega) (by omega)) c9
      refine cU hx hb hr hlk hB hS (by omega) (by omega) (⟨rfl, ⟨hO, hC, hD, hL0, fun t tr ht => ?_, hx0, hgx⟩, hFg, hzg⟩) dX4_rollAllTrades_37
      have hlt := (List.getElem?_eq_some_iff.mp ht).1
      have h7 := hT t tr ht
      rw [if_pos (by omega)] at h7
      exact h7
    | succ r ih =>
      intro i G locs ls hi hJ hE hS hl
      obtain ⟨hO, hC, hD, hL0, hT, hFg, hzg⟩ := hJ
      have hL := hL0.LR (by omega)
      obtain ⟨fs0, hOb, hcl⟩ := hL.ob
      have hlt : i < ts.length := by omega
      have hE0 := hE
      obtain ⟨tr, ht⟩ := getq hlt
      refine lv_iload_n hx hb dX4_rollAllTrades_2 rfl (lv_at hl 0 rfl) ?_
      refine lv_aload_n hx hb dX4_rollAllTrades_3 rfl (lv_at hl 1 rfl) ?_
      refine gf hx hb hts hown hE lkX4_26 hO rfl dX4_rollAllTrades_4 ?_
      refine pV hx hb hml hts hown hE kwX4_85 (c_size E bk ts.length wa G hL) hOb rfl (Nat.le_of_ble_eq_true rfl) rfl hl.1 rfl (Nat.le_of_ble_eq_true rfl) (by omega) (by omega) dX4_rollAllTrades_7 ?_
      refine lv_icmp_ge (tgt := 37) hx hb dX4_rollAllTrades_10 (by decide) (fun c9 => ?_) (fun c9 => ?_)
      · exact absurd c9 (nI_ge hlt (by omega))
      have hSi := hT i tr ht
      rw [if_neg (Nat.lt_irrefl i)] at hSi
      obtain ⟨db, dh, bd, hW0, hdb, hdh, hbd, how, hob, gw, gb⟩ := hSi
      obtain ⟨f, le, n, t4, t5, t6, vf, vl, vn⟩ := (htv tr (List.mem_of_getElem? ht)).t
      refine lv_aload_n hx hb dX4_rollAllTrades_13 rfl (lv_at hl 1 rfl) ?_
      refine gf hx hb hts hown hE lkX4_26 hO rfl dX4_rollAllTrades_14 ?_
      refine lv_iload_n hx hb dX4_rollAllTrades_17 rfl (lv_at hl 0 rfl) ?_
      refine pV hx hb hml hts hown hE kwX4_134 (c_get E bk ts.length i wa G hL hlt) hOb rfl (Nat.le_of_ble_eq_true rfl) rfl hl.1 rfl (Nat.le_of_ble_eq_true rfl) (by omega) (by omega) dX4_rollAllTrades_18 ?_
      refine cst hx hb hts hown hE qw2_74 hW0 rfl dX4_rollAllTrades_21 ?_
      refine lv_aload_n hx hb dX4_rollAllTrades_24 rfl (lv_at hl 1 rfl) ?_
      refine gf hx hb hts hown hE lkX4_10 hO rfl dX4_rollAllTrades_25 ?_
      refine gVU hx hb hml hts hown hB hE hS kwX4_95 (c_rollDays E ow (10 + 3 * i) (wa i) q db dh bd f le n tr.1 (bfC g0 g1 tr.1) h0 h1 G hW0 hbd hC n0 n1 how hob (by omega) gb t4 t5 t6 vf vl vn (bfC_z t6 vn)) hW0 rfl (Nat.le_of_ble_eq_true rfl) rfl hl.1 rfl (Nat.le_of_ble_eq_true rfl) (by omega) (by omega) dX4_rollAllTrades_28 (fun H1 L1 hG hz1 hE hS => ?_)
      obtain ⟨hbd1, hF1, hz9⟩ := hG
      have lowG : ∀ z, z < eB E → H1[z]? = G[z]? := fun z hz => hF1.2 z (Nat.lt_of_lt_of_le hz hE0.2.1) (fun e => by have e : z = bd := e; omega)
      have hN : ∀ z, z < G.size → ow z ≠ (10 + 3 * i, 1) → H1[z]? = G[z]? := fun z h9 h8 => hF1.2 z h9 (fun e => h8 (by have e : z = bd := e; rw [e]; exact hob))
      have hN1 : ∀ z, z < G.size → (ow z).1 ≠ 10 + 3 * i → H1[z]? = G[z]? := fun z h9 h8 => hN z h9 (fun e => h8 (by rw [e]))
      have hJ1 : RJ E ow x q fd bk wa g0 g1 h0 h1 fx ts (i + 1) H H1 := by
        refine ⟨pk1 hO (hN1 x (plt hO) (by rw [hx0]; show 0 ≠ _; omega)), hC.kept lowG hBF (fun z h9 h8 => hN1 z h9 (by omega)) (fun _ _ => rfl), hD.kept lowG hBF (fun z h9 h8 => hN1 z h9 (by omega)) (fun _ _ => rfl), hL0.kept lowG hBF (fun z h9 h8 => hN1 z h9 (by rcases h8 with e | e <;> (rw [e]; show 5 ≠ _; omega))) (fun _ _ => rfl), fun t ur hu => ?_, hFg.tr hF1 (fun z hz e => by have e : z = bd := e; show 10 ≤ (ow z).1; rw [e, hob]; show 10 ≤ 10 + 3 * i; omega), by omega⟩
        by_cases ct : t = i
        · subst ct
          rw [ht] at hu
          cases hu
          rw [if_pos (by omega)]
          exact ⟨db, dh, bd, pk1 hW0 (hN _ (plt hW0) (by rw [how]; intro e; cases e)), hdb.kept lowG hBF (fun z h9 h8 => hN1 z h9 (by omega)) (fun _ _ => rfl), hdh.kept lowG hBF (fun z h9 h8 => hN1 z h9 (by omega)) (fun _ _ => rfl), hbd1, how, hob, gw, gb⟩
        · have h7 := (hT t ur hu).kept (ow' := ow) lowG hBF (fun z h9 h8 => hN1 z h9 (by omega)) (fun _ _ => rfl)
          rw [ite_i ct]
          exact h7
      refine lv_iinc (v := nI (i + 1)) (lv' := [(1, .int (nI (i + 1))), (0, .ref x)]) hx hb dX4_rollAllTrades_31 hl (k := 0) rfl (nI_1 i) (by decide) rfl (fun ls hl => ?_)
      refine lv_goto (tgt := 2) hx hb dX4_rollAllTrades_34 (by decide) ?_
      exact ih (i + 1) H1 L1 ls (by omega) hJ1 hE hS (lv_sub hl [0, 1] rfl)
  exact loop ts.length 0 H [] ls (by omega) hJ hE hS (lv_sub hl [0, 1] rfl)

set_option maxRecDepth 100000 in
set_option maxHeartbeats 4000000 in
/-- holiday -/
theorem c_xhol (E : ET) (ow : Nat → Nat × Nat) (x : Nat) (h0 h1 fx : Dy) (ts : List TR) (town d : Int32) (H : Heap) (hX : XR E ow x h0 h1 fx ts H) (hV : SV h0 h1 fx ts) (hK : BL ts)  : XCon E yX4_holiday cX4_holiday 4 (some FieldType.int) 10 4 70 [.ref x, .int town, .int d] H (fun v H' => (cdHol h0 h1 town d = 0 ∧ v = some (.int (nI ((if town = 0 then h0 else h1).length + 1)))) ∧ XOut E ow x (if town = 0 then h0 ++ [(d, town)] else h0) (if town = 0 then h1 else h1 ++ [(d, town)]) fx ts H H') (fun X => cdHol h0 h1 town d ≠ 0 ∧ X = xn2 (cdHol h0 h1 town d)) := by
  refine XCon.of (C := RX4) rfl (by decide +kernel) (Nat.le_of_ble_eq_true rfl) ?_
  intro p e s m below meth co ls hx hb hr hlk hml hown hts hxt hE hH hS hl
  have hl : lv_has ls 4 [(0, .ref x), (1, .int town), (2, .int d)] := hl
  have hB : eB E ≤ s.heap.size := by rw [hH]; exact hE.2.1
  have hE0 : EV E s s.heap := by rw [hH]; exact hE
  obtain ⟨q, fd, bk, wa, hX2⟩ := hX.x
  obtain ⟨hC, hD, hL, hT⟩ := hX2.rd hV hK
  have hO := hX2.1
  have hBF := hE.2.2.1
  have v0 := hV.1
  have v1 := hV.2.1
  refine lv_iload_n hx hb dX4_holiday_0 rfl (lv_at hl 1 rfl) ?_
  refine lv_if_lt (tgt := 9) hx hb dX4_holiday_1 (by decide) (fun c1 => ?_) (fun c1 => ?_)
  · have hcd : cdHol h0 h1 town d = 1 := by unfold cdHol; rw [if_neg (by simp [inB, Int32.not_le.mpr c1])]
    exact tS (is := 32) (text := "no such town") hx hb hml hlk hxt hts hown hE0 hH hS txI (by decide) (by rw [hcd]; exact ⟨by decide, rfl⟩) hl.1 (Nat.le_of_ble_eq_true rfl) (Nat.le_of_ble_eq_true rfl) (by omega) (by omega) dX4_holiday_9 dX4_holiday_12 dX4_holiday_13 dX4_holiday_15 dX4_holiday_18
  · refine lv_iload_n hx hb dX4_holiday_4 rfl (lv_at hl 1 rfl) ?_
    refine lv_iconst (v := 2) hx hb dX4_holiday_5 (by decide) ?_
    refine lv_icmp_lt (tgt := 19) hx hb dX4_holiday_6 (by decide) (fun c2 => ?_) (fun c2 => ?_)
    · have g0 : inB town 0 1 = true := by simp [inB, Int32.not_lt.mp c1, i32_lt2.mp c2]
      refine lv_iload_n hx hb dX4_holiday_19 rfl (lv_at hl 2 rfl) ?_
      refine lv_iconst (v := 0) hx hb dX4_holiday_20 (by decide) ?_
      refine lv_sipush (v := 3000) hx hb dX4_holiday_21 (by decide) ?_
      refine xSc hx hb hml hlk hxt hts hown hB hE hH hS kwX4_37 (c_crange E d 0 3000 H) (fun X h => by have e9 : cdHol h0 h1 town d = 2 := (by unfold cdHol; rw [g0, h.2]; rfl); rw [e9]; exact ⟨by decide, h.1⟩) (Nat.le_of_ble_eq_true rfl) rfl hl.1 rfl (Nat.le_of_ble_eq_true rfl) (by omega) (by omega) dX4_holiday_24 (fun v1 H1 L1 ho1 hz1 hE hS => ?_)
      obtain ⟨g1, hv1, hh1⟩ := ho1
      subst hv1
      have hh1 := hh1.symm
      subst hh1
      dsimp only [Option.toList, List.nil_append, List.cons_append]
      obtain ⟨d0, d1, hq0, hd0, hd1, hoq, hgq⟩ := hX2.2.1
      rcases inB01 g0 with e0 | e0
      · subst e0
        have i0 : (if (0 : Int32) = 0 then h0 else h1) = h0 := if_pos rfl
        have i1 : (if (0 : Int32) = 0 then h0 ++ [(d, 0)] else h0) = h0 ++ [(d, 0)] := if_pos rfl
        have i2 : (if (0 : Int32) = 0 then h1 else h1 ++ [(d, 0)]) = h1 := if_pos rfl
        refine lv_aload_n hx hb dX4_holiday_27 rfl (lv_at hl 0 rfl) ?_
        refine gf hx hb hts hown hE lkX4_10 hO rfl dX4_holiday_28 ?_
        refine lv_iload_n hx hb dX4_holiday_31 rfl (lv_at hl 1 rfl) ?_
        refine pV hx hb hml hts hown hE kwX4_41 (c_hof0 E q d0 d1 H hq0) hq0 rfl (Nat.le_of_ble_eq_true rfl) rfl hl.1 rfl (Nat.le_of_ble_eq_true rfl) (by omega) (by omega) dX4_holiday_32 ?_
        obtain ⟨a9, ad9, hD8, -⟩ := hd0.DRx (by omega)
        have hD0 := hD8.1
        refine lv_astore_n (lv' := [(3, .ref d0), (0, .ref x), (1, .int 0), (2, .int d)]) hx hb dX4_holiday_35 rfl hl (by decide) rfl (fun ls hl => ?_)
        refine lv_aload_n hx hb dX4_holiday_36 rfl (lv_at hl 0 rfl) ?_
        refine pV hx hb hml hts hown hE kwX4_45 (c_count E d0 a9 ad9 h0 H hD8) hD0 rfl (Nat.le_of_ble_eq_true rfl) rfl hl.1 rfl (Nat.le_of_ble_eq_true rfl) (by omega) (by omega) dX4_holiday_37 ?_
        refine lv_bipush (v := 20) hx hb dX4_holiday_40 (by decide) ?_
        refine lv_icmp_ge (tgt := 53) hx hb dX4_holiday_42 (by decide) (fun c3 => ?_) (fun c3 => ?_)
        · have c4 : 20 ≤ h0.length := by
            rcases Nat.lt_or_ge h0.length 20 with q9 | q9
            · exact absurd c3 (nI_ge (a := h0.length) (b := 20) q9 (by decide))
            · exact q9
          have hcd : cdHol h0 h1 0 d = 3 := by unfold cdHol; rw [g0, g1, if_pos rfl, if_pos rfl, i0]; simp [c4]
          exact tS (is := 55) (text := "the town has this holiday, or no room for it") hx hb hml hlk hxt hts hown hE0 hH hS txS (by decide) (by rw [hcd]; exact ⟨by decide, rfl⟩) hl.1 (Nat.le_of_ble_eq_true rfl) (Nat.le_of_ble_eq_true rfl) (by omega) (by omega) dX4_holiday_53 dX4_holiday_56 dX4_holiday_57 dX4_holiday_59 dX4_holiday_62
        · have c4 : h0.length < 20 := by
            rcases Nat.lt_or_ge h0.length 20 with q9 | q9
            · exact q9
            · exact absurd (nI_le (a := 20) (b := h0.length) q9 (by omega)) c3
          refine lv_aload_n hx hb dX4_holiday_45 rfl (lv_at hl 0 rfl) ?_
          refine lv_iload_n hx hb dX4_holiday_46 rfl (lv_at hl 3 rfl) ?_
          refine pV hx hb hml hts hown hE kwX4_49 (c_has E d0 a9 ad9 h0 d H hD8) hD0 rfl (Nat.le_of_ble_eq_true rfl) rfl hl.1 rfl (Nat.le_of_ble_eq_true rfl) (by omega) (by omega) dX4_holiday_47 ?_
          cases c5 : dHas h0 d with
          | true =>
            refine lv_if_eq (tgt := 63) hx hb dX4_holiday_50 (by decide) (fun c6 => ?_) (fun c6 => ?_)
            · exact absurd c6 (by decide)
            have hcd : cdHol h0 h1 0 d = 3 := by unfold cdHol; rw [g0, g1, if_pos rfl, if_pos rfl, i0]; simp [c5]
            exact tS (is := 55) (text := "the town has this holiday, or no room for it") hx hb hml hlk hxt hts hown hE0 hH hS txS (by decide) (by rw [hcd]; exact ⟨by decide, rfl⟩) hl.1 (Nat.le_of_ble_eq_true rfl) (Nat.le_of_ble_eq_true rfl) (by omega) (by omega) dX4_holiday_53 dX4_holiday_56 dX4_holiday_57 dX4_holiday_59 dX4_holiday_62
          | false =>
            refine lv_if_eq (tgt := 63) hx hb dX4_holiday_50 (by decide) (fun c6 => ?_) (fun c6 => ?_)
            rotate_left
            · exact absurd (by decide) c6
            have hcd : cdHol h0 h1 0 d = 0 := by unfold cdHol; rw [g0, g1, if_pos rfl, if_pos rfl, i0]; simp [Nat.not_le.mpr c4, c5]
            refine lv_aload_n hx hb dX4_holiday_63 rfl (lv_at hl 0 rfl) ?_
            refine lv_iload_n hx hb dX4_holiday_64 rfl (lv_at hl 3 rfl) ?_
            refine lv_iload_n hx hb dX4_holiday_65 rfl (lv_at hl 2 rfl) ?_
            refine gVU hx hb hml hts hown hB hE hS kwX4_58 (c_dadd E ow 2 d0 h0 d 0 H hd0 (by omega)) hD0 rfl (Nat.le_of_ble_eq_true rfl) rfl hl.1 rfl (Nat.le_of_ble_eq_true rfl) (by omega) (by omega) dX4_holiday_66 (fun H2 L2 hG hz2 hE hS => ?_)
            obtain ⟨ow1, e1, e2, hDn, hFn⟩ := hG
            have low1 := hS.low hH hB
            have hCn := CRo.a0 hq0 hd1 hDn hoq hgq low1 hBF e1 hFn
            have hXg := hX2.hol (L := 2) (by decide) hCn low1 hBF e1 hFn
            have hO := hXg.1
            refine lv_aload_n hx hb dX4_holiday_69 rfl (lv_at hl 1 rfl) ?_
            refine gVU hx hb hml hts hown hB hE hS kwX4_62 (c_xrollall E ow1 x q fd bk wa h0 h1 (h0 ++ [(d, 0)]) h1 fx ts H2 hXg (by rw [List.length_append]; show _ + 1 ≤ _; omega) v1 hV.tn hV.2.2.2.2.2.2.2.2) hO rfl (Nat.le_of_ble_eq_true rfl) rfl hl.1 rfl (Nat.le_of_ble_eq_true rfl) (by omega) (by omega) dX4_holiday_70 (fun H3 L3 hG hz3 hE hS => ?_)
            obtain ⟨hXn, hF2, hz8⟩ := hG
            obtain ⟨d2, d3, hq2, hd2, hd3, -⟩ := id hXn.2.1
            have hD5 : DRo E ow1 2 d0 (h0 ++ [(d, 0)]) H3 := hDn.kept ((fun z hz => (hS.low hH hB z hz).trans (low1 z hz).symm)) hBF (fun z h9 h8 => hF2.2 z h9 (by show ¬ 10 ≤ (ow1 z).1; omega)) (fun _ _ => rfl)
            obtain ⟨a7, ad7, hD7, -⟩ := hD5.DRx (by rw [List.length_append]; show _ + 1 < _; omega)
            have hD6 := hD7.1
            refine lv_aload_n hx hb dX4_holiday_73 rfl (lv_at hl 0 rfl) ?_
            refine pV hx hb hml hts hown hE kwX4_45 (c_count E d0 a7 ad7 (h0 ++ [(d, 0)]) H3 hD7) hD6 rfl (Nat.le_of_ble_eq_true rfl) rfl hl.1 rfl (Nat.le_of_ble_eq_true rfl) (by omega) (by omega) dX4_holiday_74 ?_
            exact vx_ret (cI hx hb hr hlk hB hS (by omega) (by omega) (⟨⟨hcd, by rw [i0, List.length_append]; rfl⟩, by rw [i1, i2]; exact ⟨ow1, e1, fun z h9 => by rw [e2 z h9]; decide, hXn.R, hFn.lab4 e1 e2 hF2⟩⟩) dX4_holiday_77)
      · subst e0
        have i0 : (if (1 : Int32) = 0 then h0 else h1) = h1 := if_neg (by decide)
        have i1 : (if (1 : Int32) = 0 then h0 ++ [(d, 1)] else h0) = h0 := if_neg (by decide)
        have i2 : (if (1 : Int32) = 0 then h1 else h1 ++ [(d, 1)]) = h1 ++ [(d, 1)] := if_neg (by decide)
        refine lv_aload_n hx hb dX4_holiday_27 rfl (lv_at hl 0 rfl) ?_
        refine gf hx hb hts hown hE lkX4_10 hO rfl dX4_holiday_28 ?_
        refine lv_iload_n hx hb dX4_holiday_31 rfl (lv_at hl 1 rfl) ?_
        refine pV hx hb hml hts hown hE kwX4_41 (c_hof1 E q d0 d1 H hq0) hq0 rfl (Nat.le_of_ble_eq_true rfl) rfl hl.1 rfl (Nat.le_of_ble_eq_true rfl) (by omega) (by omega) dX4_holiday_32 ?_
        obtain ⟨a9, ad9, hD8, -⟩ := hd1.DRx (by omega)
        have hD0 := hD8.1
        refine lv_astore_n (lv' := [(3, .ref d1), (0, .ref x), (1, .int 1), (2, .int d)]) hx hb dX4_holiday_35 rfl hl (by decide) rfl (fun ls hl => ?_)
        refine lv_aload_n hx hb dX4_holiday_36 rfl (lv_at hl 0 rfl) ?_
        refine pV hx hb hml hts hown hE kwX4_45 (c_count E d1 a9 ad9 h1 H hD8) hD0 rfl (Nat.le_of_ble_eq_true rfl) rfl hl.1 rfl (Nat.le_of_ble_eq_true rfl) (by omega) (by omega) dX4_holiday_37 ?_
        refine lv_bipush (v := 20) hx hb dX4_holiday_40 (by decide) ?_
        refine lv_icmp_ge (tgt := 53) hx hb dX4_holiday_42 (by decide) (fun c3 => ?_) (fun c3 => ?_)
        · have c4 : 20 ≤ h1.length := by
            rcases Nat.lt_or_ge h1.length 20 with q9 | q9
            · exact absurd c3 (nI_ge (a := h1.length) (b := 20) q9 (by decide))
            · exact q9
          have hcd : cdHol h0 h1 1 d = 3 := by unfold cdHol; rw [g0, g1, if_pos rfl, if_pos rfl, i0]; simp [c4]
          exact tS (is := 55) (text := "the town has this holiday, or no room for it") hx hb hml hlk hxt hts hown hE0 hH hS txS (by decide) (by rw [hcd]; exact ⟨by decide, rfl⟩) hl.1 (Nat.le_of_ble_eq_true rfl) (Nat.le_of_ble_eq_true rfl) (by omega) (by omega) dX4_holiday_53 dX4_holiday_56 dX4_holiday_57 dX4_holiday_59 dX4_holiday_62
        · have c4 : h1.length < 20 := by
            rcases Nat.lt_or_ge h1.length 20 with q9 | q9
            · exact q9
            · exact absurd (nI_le (a := 20) (b := h1.length) q9 (by omega)) c3
          refine lv_aload_n hx hb dX4_holiday_45 rfl (lv_at hl 0 rfl) ?_
          refine lv_iload_n hx hb dX4_holiday_46 rfl (lv_at hl 3 rfl) ?_
          refine pV hx hb hml hts hown hE kwX4_49 (c_has E d1 a9 ad9 h1 d H hD8) hD0 rfl (Nat.le_of_ble_eq_true rfl) rfl hl.1 rfl (Nat.le_of_ble_eq_true rfl) (by omega) (by omega) dX4_holiday_47 ?_
          cases c5 : dHas h1 d with
          | true =>
            refine lv_if_eq (tgt := 63) hx hb dX4_holiday_50 (by decide) (fun c6 => ?_) (fun c6 => ?_)
            · exact absurd c6 (by decide)
            have hcd : cdHol h0 h1 1 d = 3 := by unfold cdHol; rw [g0, g1, if_pos rfl, if_pos rfl, i0]; simp [c5]
            exact tS (is := 55) (text := "the town has this holiday, or no room for it") hx hb hml hlk hxt hts hown hE0 hH hS txS (by decide) (by rw [hcd]; exact ⟨by decide, rfl⟩) hl.1 (Nat.le_of_ble_eq_true rfl) (Nat.le_of_ble_eq_true rfl) (by omega) (by omega) dX4_holiday_53 dX4_holiday_56 dX4_holiday_57 dX4_holiday_59 dX4_holiday_62
          | false =>
            refine lv_if_eq (tgt := 63) hx hb dX4_holiday_50 (by decide) (fun c6 => ?_) (fun c6 => ?_)
            rotate_left
            · exact absurd (by decide) c6
            have hcd : cdHol h0 h1 1 d = 0 := by unfold cdHol; rw [g0, g1, if_pos rfl, if_pos rfl, i0]; simp [Nat.not_le.mpr c4, c5]
            refine lv_aload_n hx hb dX4_holiday_63 rfl (lv_at hl 0 rfl) ?_
            refine lv_iload_n hx hb dX4_holiday_64 rfl (lv_at hl 3 rfl) ?_
            refine lv_iload_n hx hb dX4_holiday_65 rfl (lv_at hl 2 rfl) ?_
            refine gVU hx hb hml hts hown hB hE hS kwX4_58 (c_dadd E ow 3 d1 h1 d 1 H hd1 (by omega)) hD0 rfl (Nat.le_of_ble_eq_true rfl) rfl hl.1 rfl (Nat.le_of_ble_eq_true rfl) (by omega) (by omega) dX4_holiday_66 (fun H2 L2 hG hz2 hE hS => ?_)
            obtain ⟨ow1, e1, e2, hDn, hFn⟩ := hG
            have low1 := hS.low hH hB
            have hCn := CRo.a1 hq0 hd0 hDn hoq hgq low1 hBF e1 hFn
            have hXg := hX2.hol (L := 3) (by decide) hCn low1 hBF e1 hFn
            have hO := hXg.1
            refine lv_aload_n hx hb dX4_holiday_69 rfl (lv_at hl 1 rfl) ?_
            refine gVU hx hb hml hts hown hB hE hS kwX4_62 (c_xrollall E ow1 x q fd bk wa h0 h1 h0 (h1 ++ [(d, 1)]) fx ts H2 hXg v0 (by rw [List.length_append]; show _ + 1 ≤ _; omega) hV.tn hV.2.2.2.2.2.2.2.2) hO rfl (Nat.le_of_ble_eq_true rfl) rfl hl.1 rfl (Nat.le_of_ble_eq_true rfl) (by omega) (by omega) dX4_holiday_70 (fun H3 L3 hG hz3 hE hS => ?_)
            obtain ⟨hXn, hF2, hz8⟩ := hG
            obtain ⟨d2, d3, hq2, hd2, hd3, -⟩ := id hXn.2.1
            have hD5 : DRo E ow1 3 d1 (h1 ++ [(d, 1)]) H3 := hDn.kept ((fun z hz => (hS.low hH hB z hz).trans (low1 z hz).symm)) hBF (fun z h9 h8 => hF2.2 z h9 (by show ¬ 10 ≤ (ow1 z).1; omega)) (fun _ _ => rfl)
            obtain ⟨a7, ad7, hD7, -⟩ := hD5.DRx (by rw [List.length_append]; show _ + 1 < _; omega)
            have hD6 := hD7.1
            refine lv_aload_n hx hb dX4_holiday_73 rfl (lv_at hl 0 rfl) ?_
            refine pV hx hb hml hts hown hE kwX4_45 (c_count E d1 a7 ad7 (h1 ++ [(d, 1)]) H3 hD7) hD6 rfl (Nat.le_of_ble_eq_true rfl) rfl hl.1 rfl (Nat.le_of_ble_eq_true rfl) (by omega) (by omega) dX4_holiday_74 ?_
            exact vx_ret (cI hx hb hr hlk hB hS (by omega) (by omega) (⟨⟨hcd, by rw [i0, List.length_append]; rfl⟩, by rw [i1, i2]; exact ⟨ow1, e1, fun z h9 => by rw [e2 z h9]; decide, hXn.R, hFn.lab4 e1 e2 hF2⟩⟩) dX4_holiday_77)
    · have hcd : cdHol h0 h1 town d = 1 := by unfold cdHol; rw [if_neg (by have c9 : ¬ town ≤ 1 := fun q => c2 (i32_lt2.mpr q); simp [inB, c9])]
      exact tS (is := 32) (text := "no such town") hx hb hml hlk hxt hts hown hE0 hH hS txI (by decide) (by rw [hcd]; exact ⟨by decide, rfl⟩) hl.1 (Nat.le_of_ble_eq_true rfl) (Nat.le_of_ble_eq_true rfl) (by omega) (by omega) dX4_holiday_9 dX4_holiday_12 dX4_holiday_13 dX4_holiday_15 dX4_holiday_18
end
section
theorem LRo.lab {E : ET} {ow ow' : Nat → Nat × Nat} {L a c : Nat} {ad : Nat → Nat} {H : Heap} (h : LRo E ow L a c ad H) (hw : ∀ q, (ow q).1 = L → ow' q = ow q) : LRo E ow' L a c ad H := by
  obtain ⟨mo, arr, n, f, hO, hA, h1, h2, h3, h4, h5, h6⟩ := h
  exact ⟨mo, arr, n, f, hO, hA, h1, h2, h3, by rw [hw a (by rw [h4])]; exact h4, h5, h6.imp id (fun g => ⟨by rw [hw arr (by rw [g.1])]; exact g.1, g.2⟩)⟩
theorem DRo.lab {E : ET} {ow ow' : Nat → Nat × Nat} {L d : Nat} {es : Dy} {H : Heap} (h : DRo E ow L d es H) (hw : ∀ q, (ow q).1 = L → ow' q = ow q) : DRo E ow' L d es H := by
  obtain ⟨a, ad, hO, hL, hEs, h1, h2⟩ := h
  exact ⟨a, ad, hO, hL.lab hw, fun i x hx => ⟨(hEs i x hx).1, by rw [hw _ (by rw [(hEs i x hx).2.1])]; exact (hEs i x hx).2.1, (hEs i x hx).2.2⟩, by rw [hw d (by rw [h1])]; exact h1, h2⟩
theorem getA {α : Type} {l : List α} {x y : α} {t : Nat} (h : (l ++ [x])[t]? = some y) : (l[t]? = some y ∧ t < l.length) ∨ (t = l.length ∧ y = x) := by
  rcases Nat.lt_trichotomy t l.length with c | c | c
  · rw [List.getElem?_append_left c] at h
    exact Or.inl ⟨h, c⟩
  · rw [c, List.getElem?_append_right (Nat.le_refl _), Nat.sub_self] at h
    exact Or.inr ⟨c, by simpa using h.symm⟩
  · rw [List.getElem?_eq_none (by rw [List.length_append]; show l.length + 1 ≤ t; omega)] at h
    cases h
set_option maxRecDepth 100000 in
set_option maxHeartbeats 4000000 in
/-- trade -/
theorem c_xtrd (E : ET) (ow : Nat → Nat × Nat) (x : Nat) (h0 h1 fx : Dy) (ts : List TR) (pa lo py fi fs le pe : Int32) (H : Heap) (hX : XR E ow x h0 h1 fx ts H) (hV : SV h0 h1 fx ts) (hK : BL ts) (hpy : py = 0 ∨ py = 1) : XCon E yX4_trade cX4_trade 9 (some FieldType.int) 10 14 110 [.ref x, .int pa, .int lo, .int py, .int fi, .int fs, .int le, .int pe] H (fun v H' => (cdTrd ts pa lo fi fs le pe = 0 ∧ v = some (.int (nI ts.length))) ∧ XOut E ow x h0 h1 fx (ts ++ [(mkT pa lo py fi fs le pe, [], [])]) H H') (fun X => cdTrd ts pa lo fi fs le pe ≠ 0 ∧ X = xn2 (cdTrd ts pa lo fi fs le pe)) := by
  refine XCon.of (C := RX4) rfl (by decide +kernel) (Nat.le_of_ble_eq_true rfl) ?_
  intro p e s m below meth co ls hx hb hr hlk hml hown hts hxt hE hH hS hl
  have hl : lv_has ls 9 [(0, .ref x), (1, .int pa), (2, .int lo), (3, .int py), (4, .int fi), (5, .int fs), (6, .int le), (7, .int pe)] := hl
  have hB : eB E ≤ s.heap.size := by rw [hH]; exact hE.2.1
  have hE0 : EV E s s.heap := by rw [hH]; exact hE
  obtain ⟨q, fd, bk, wa, hX2⟩ := hX.x
  obtain ⟨hC, hD, hL, hT⟩ := hX2.rd hV hK
  have hO := hX2.1
  have hBF := hE.2.2.1
  have v0 := hV.1
  have v1 := hV.2.1
  have htn := hV.tn
  have hwl := plt hO
  refine lv_iload_n hx hb dX4_trade_0 rfl (lv_at hl 1 rfl) ?_
  refine xSc hx hb hml hlk hxt hts hown hB hE hH hS kwX4_81 (c_cparty E pa H) (fun X h => by have e9 : cdTrd ts pa lo fi fs le pe = 1 := (by unfold cdTrd; rw [h.2]; rfl); rw [e9]; exact ⟨by decide, h.1⟩) (Nat.le_of_ble_eq_true rfl) rfl hl.1 rfl (Nat.le_of_ble_eq_true rfl) (by omega) (by omega) dX4_trade_1 (fun v1 H1 L1 ho1 hz1 hE hS => ?_)
  obtain ⟨g0, hv1, hh1⟩ := ho1
  subst hv1
  have hh1 := hh1.symm
  subst hh1
  dsimp only [Option.toList, List.nil_append, List.cons_append]
  refine lv_iload_n hx hb dX4_trade_4 rfl (lv_at hl 2 rfl) ?_
  refine lv_iconst (v := 1) hx hb dX4_trade_5 (by decide) ?_
  refine lv_sipush (v := 1000) hx hb dX4_trade_6 (by decide) ?_
  refine xSc hx hb hml hlk hxt hts hown hB hE hH hS kwX4_37 (c_crange E lo 1 1000 H) (fun X h => by have e9 : cdTrd ts pa lo fi fs le pe = 2 := (by unfold cdTrd; rw [g0, h.2]; simp); rw [e9]; exact ⟨by decide, h.1⟩) (Nat.le_of_ble_eq_true rfl) rfl hl.1 rfl (Nat.le_of_ble_eq_true rfl) (by omega) (by omega) dX4_trade_9 (fun v2 H2 L2 ho2 hz2 hE hS => ?_)
  obtain ⟨g1, hv2, hh2⟩ := ho2
  subst hv2
  have hh2 := hh2.symm
  subst hh2
  dsimp only [Option.toList, List.nil_append, List.cons_append]
  refine lv_iload hx hb dX4_trade_12 (lv_at hl 4 rfl) ?_
  refine lv_sipush (v := (-500)) hx hb dX4_trade_14 (by decide) ?_
  refine lv_sipush (v := 2000) hx hb dX4_trade_17 (by decide) ?_
  refine xSc hx hb hml hlk hxt hts hown hB hE hH hS kwX4_37 (c_crange E fi (-500) 2000 H) (fun X h => by have e9 : cdTrd ts pa lo fi fs le pe = 2 := (by unfold cdTrd; rw [g0, g1, h.2]; simp); rw [e9]; exact ⟨by decide, h.1⟩) (Nat.le_of_ble_eq_true rfl) rfl hl.1 rfl (Nat.le_of_ble_eq_true rfl) (by omega) (by omega) dX4_trade_20 (fun v3 H3 L3 ho3 hz3 hE hS => ?_)
  obtain ⟨g2, hv3, hh3⟩ := ho3
  subst hv3
  have hh3 := hh3.symm
  subst hh3
  dsimp only [Option.toList, List.nil_append, List.cons_append]
  refine lv_iload hx hb dX4_trade_23 (lv_at hl 5 rfl) ?_
  refine lv_iconst (v := 0) hx hb dX4_trade_25 (by decide) ?_
  refine lv_sipush (v := 1000) hx hb dX4_trade_26 (by decide) ?_
  refine xSc hx hb hml hlk hxt hts hown hB hE hH hS kwX4_37 (c_crange E fs 0 1000 H) (fun X h => by have e9 : cdTrd ts pa lo fi fs le pe = 2 := (by unfold cdTrd; rw [g0, g1, g2, h.2]; simp); rw [e9]; exact ⟨by decide, h.1⟩) (Nat.le_of_ble_eq_true rfl) rfl hl.1 rfl (Nat.le_of_ble_eq_true rfl) (by omega) (by omega) dX4_trade_29 (fun v4 H4 L4 ho4 hz4 hE hS => ?_)
  obtain ⟨g3, hv4, hh4⟩ := ho4
  subst hv4
  have hh4 := hh4.symm
  subst hh4
  dsimp only [Option.toList, List.nil_append, List.cons_append]
  refine lv_iload hx hb dX4_trade_32 (lv_at hl 6 rfl) ?_
  refine lv_iconst (v := 5) hx hb dX4_trade_34 (by decide) ?_
  refine lv_sipush (v := 180) hx hb dX4_trade_35 (by decide) ?_
  refine xSc hx hb hml hlk hxt hts hown hB hE hH hS kwX4_37 (c_crange E le 5 180 H) (fun X h => by have e9 : cdTrd ts pa lo fi fs le pe = 2 := (by unfold cdTrd; rw [g0, g1, g2, g3, h.2]; simp); rw [e9]; exact ⟨by decide, h.1⟩) (Nat.le_of_ble_eq_true rfl) rfl hl.1 rfl (Nat.le_of_ble_eq_true rfl) (by omega) (by omega) dX4_trade_38 (fun v5 H5 L5 ho5 hz5 hE hS => ?_)
  obtain ⟨g4, hv5, hh5⟩ := ho5
  subst hv5
  have hh5 := hh5.symm
  subst hh5
  dsimp only [Option.toList, List.nil_append, List.cons_append]
  refine lv_iload hx hb dX4_trade_41 (lv_at hl 7 rfl) ?_
  refine lv_iconst (v := 1) hx hb dX4_trade_43 (by decide) ?_
  refine lv_bipush (v := 10) hx hb dX4_trade_44 (by decide) ?_
  refine xSc hx hb hml hlk hxt hts hown hB hE hH hS kwX4_37 (c_crange E pe 1 10 H) (fun X h => by have e9 : cdTrd ts pa lo fi fs le pe = 2 := (by unfold cdTrd; rw [g0, g1, g2, g3, g4, h.2]; simp); rw [e9]; exact ⟨by decide, h.1⟩) (Nat.le_of_ble_eq_true rfl) rfl hl.1 rfl (Nat.le_of_ble_eq_true rfl) (by omega) (by omega) dX4_trade_46 (fun v6 H6 L6 ho6 hz6 hE hS => ?_)
  obtain ⟨g5, hv6, hh6⟩ := ho6
  subst hv6
  have hh6 := hh6.symm
  subst hh6
  dsimp only [Option.toList, List.nil_append, List.cons_append]
  obtain ⟨nfs, -, vfs, efs⟩ := inB_nI2 (a := 0) (b := 1000) g3
  obtain ⟨nle, vle1, vle, ele⟩ := inB_nI2 (a := 5) (b := 180) g4
  obtain ⟨npe, vpe1, vpe, epe⟩ := inB_nI2 (a := 1) (b := 10) g5
  have hall : (inB lo 1 1000 && (inB fi (-500) 2000 && (inB fs 0 1000 && (inB le 5 180 && inB pe 1 10)))) = true := by rw [g1, g2, g3, g4, g5]; rfl
  obtain ⟨fs0, hOb, hcl⟩ := hL.ob
  refine lv_aload_n hx hb dX4_trade_49 rfl (lv_at hl 0 rfl) ?_
  refine gf hx hb hts hown hE lkX4_26 hO rfl dX4_trade_50 ?_
  refine pV hx hb hml hts hown hE kwX4_85 (c_size E bk ts.length wa H hL) hOb rfl (Nat.le_of_ble_eq_true rfl) rfl hl.1 rfl (Nat.le_of_ble_eq_true rfl) (by omega) (by omega) dX4_trade_53 ?_
  refine lv_bipush (v := 10) hx hb dX4_trade_56 (by decide) ?_
  refine lv_icmp_lt (tgt := 71) hx hb dX4_trade_58 (by decide) (fun c1 => ?_) (fun c1 => ?_)
  · have c2 : ts.length < 10 := by
      rcases Nat.lt_or_ge ts.length 10 with q9 | q9
      · exact q9
      · exact absurd c1 (nI_nlt (a := ts.length) (b := 10) q9 (by omega))
    have hcd : cdTrd ts pa lo fi fs le pe = 0 := by unfold cdTrd; rw [g0, hall]; simp only [if_true]; exact if_neg (Nat.not_le.mpr c2)
    obtain ⟨hO, hC5, hD5, hL5, hT5, hox, hgx⟩ := hX2
    have hOb0 := hOb
    refine nw (fs := [.int 0, .int 0, .int 0, .int 0, .int 0, .int 0, .int 0, .int 0, .int 0, .int 0, .null, .null, .null]) hx hb hts hown hE hS nkX4_90 (fun j hj => by rcases (show j = 0 ∨ j = 1 ∨ j = 2 ∨ j = 3 ∨ j = 4 ∨ j = 5 ∨ j = 6 ∨ j = 7 ∨ j = 8 ∨ j = 9 ∨ j = 10 ∨ j = 11 ∨ j = 12 by omega) with rfl | rfl | rfl | rfl | rfl | rfl | rfl | rfl | rfl | rfl | rfl | rfl | rfl <;> rfl) (by omega) (by omega) dX4_trade_71 (fun w H7 ea7 hWn hz7 hq7 hE hS hg7 => ?_)
    have hO := pk3 hO hq7
    have hOb := pk3 hOb hq7
    have hn1 : ∀ z, z < H.size → H7[z]? = H[z]? := hq7
    have hgB : eB E ≤ H.size := by rw [← hH]; exact hB
    have how : owx (fun _ => ((0, 9) : Nat × Nat)) H (10 + 3 * ts.length, 0) w = (10 + 3 * ts.length, 0) := owx_new (by omega)
    refine lv_dup hx hb dX4_trade_74 rfl ?_
    refine lv_iload_n hx hb dX4_trade_75 rfl (lv_at hl 1 rfl) ?_
    refine lv_iload_n hx hb dX4_trade_76 rfl (lv_at hl 2 rfl) ?_
    refine lv_iload_n hx hb dX4_trade_77 rfl (lv_at hl 3 rfl) ?_
    refine lv_iload hx hb dX4_trade_78 (lv_at hl 4 rfl) ?_
    refine lv_iload hx hb dX4_trade_80 (lv_at hl 5 rfl) ?_
    refine lv_iload hx hb dX4_trade_82 (lv_at hl 6 rfl) ?_
    refine lv_iload hx hb dX4_trade_84 (lv_at hl 7 rfl) ?_
    refine gI hx hb hml hts hown hB hE hS kwX4_92 (c_sini E (owx (fun _ => (0, 9)) H (10 + 3 * ts.length, 0)) (10 + 3 * ts.length) w pa lo py fi fs le pe H7 hWn hpy hg7 how) (Nat.le_of_ble_eq_true rfl) rfl hl.1 rfl (Nat.le_of_ble_eq_true rfl) (by omega) (by omega) dX4_trade_86 (fun H8 L8 hG hz8 hE hS => ?_)
    obtain ⟨owB, e1, e2, hS2, hF2⟩ := hG
    have hn2 : ∀ z, z < H.size → H8[z]? = H[z]? := fun z hz => (hF2.2 z (by omega) (fun e => by have e : z = w := e; omega)).trans (hn1 z hz)
    have hz9 : H.size < H8.size := by have := hF2.1; omega
    obtain ⟨ow2, eo, en⟩ : ∃ f : Nat → Nat × Nat, (∀ z, z < H.size → f z = ow z) ∧ ∀ z, H.size ≤ z → f z = owB z := ⟨fun z => if z < H.size then ow z else owB z, fun z hz => if_pos hz, fun z hz => if_neg (Nat.not_lt.mpr hz)⟩
    have hlab : ∀ z, 10 ≤ (owB z).1 → H.size ≤ z := fun z hz => by
      rcases Nat.lt_or_ge z H.size with q9 | q9
      · rw [e1 z (by omega), owx_old q9] at hz; exact absurd hz (by decide)
      · exact q9
    have lowN : ∀ z, z < eB E → H8[z]? = H[z]? := fun z hz => hn2 z (by omega)
    have hC2 : CRo E ow2 q h0 h1 H8 := hC5.kept lowN hBF (fun z h9 _ => hn2 z h9) eo
    have hL2 : LRo E ow2 5 bk ts.length wa H8 := hL5.kept lowN hBF (fun z h9 _ => hn2 z h9) eo
    have hO : OB E 5 [.ref q, .ref fd, .ref bk] x H8 := pk1 hO (by rw [hn2 x hwl, hn1 x hwl])
    obtain ⟨db, dh, bd, hW0, hdb, hdh, hbd, hw2, hob, gw, gb⟩ := hS2
    have hbo : H.size ≤ bd := hlab bd (by rw [hob]; show 10 ≤ 10 + 3 * ts.length; omega)
    have hdb : DRo E ow2 _ db [] _ := hdb.lab (fun z hz => en z (hlab z (by omega)))
    have hdh : DRo E ow2 _ dh [] _ := hdh.lab (fun z hz => en z (hlab z (by omega)))
    have hob : ow2 bd = _ := (en bd hbo).trans hob
    have hw2 : ow2 w = _ := (en w (by omega)).trans hw2
    have e2l : ∀ z, H.size ≤ z → 10 ≤ (ow2 z).1 := fun z hz => by
      rw [en z hz]
      rcases Nat.lt_or_ge z H7.size with q9 | q9
      · rw [e1 z q9, owx_new hz]; show 10 ≤ 10 + 3 * ts.length; omega
      · have := (e2 z q9).1; omega
    refine lv_astore (lv' := [(8, .ref w), (0, .ref x), (1, .int pa), (2, .int lo), (3, .int py), (4, .int fi), (5, .int fs), (6, .int le), (7, .int pe)]) hx hb dX4_trade_89 hl (by decide) rfl (fun ls hl => ?_)
    refine lv_aload hx hb dX4_trade_91 (lv_at hl 0 rfl) ?_
    refine lv_aload_n hx hb dX4_trade_93 rfl (lv_at hl 1 rfl) ?_
    refine gf hx hb hts hown hE lkX4_10 hO rfl dX4_trade_94 ?_
    refine gVU hx hb hml hts hown hB hE hS kwX4_95 (c_rollDays E ow2 (10 + 3 * ts.length) w q db dh bd nfs nle npe (mkT pa lo py fi fs le pe) (fun _ => 0) h0 h1 H8 hW0 hbd hC2 v0 v1 hw2 hob (by omega) gb efs ele epe vfs vle vpe (fun _ _ => rfl)) hW0 rfl (Nat.le_of_ble_eq_true rfl) rfl hl.1 rfl (Nat.le_of_ble_eq_true rfl) (by omega) (by omega) dX4_trade_97 (fun H9 L9 hG hz9 hE hS => ?_)
    obtain ⟨hbd3, hF3, hz8⟩ := hG
    have hdl := plt hbd
    have hwl2 := plt hW0
    have hn3 : ∀ z, z < H.size → H9[z]? = H[z]? := fun z hz => (hF3.2 z (by omega) (fun e => by have e : z = bd := e; omega)).trans (hn2 z hz)
    have lowM : ∀ z, z < eB E → H9[z]? = H[z]? := fun z hz => hn3 z (by omega)
    have hL3 : LRo E ow2 5 bk ts.length wa H9 := hL5.kept lowM hBF (fun z h9 _ => hn3 z h9) eo
    have hO := hF3.at hO (fun e => by have e : x = bd := e; omega)
    have hW3 := hF3.at hW0 (fun e => by have e : w = bd := e; rw [e, hob] at hw2; cases hw2)
    have hOb := pk1 hOb0 (hn3 bk (plt hOb0))
    have hwa : ∀ i, i < ts.length → ∃ tr, ts[i]? = some tr ∧ SRo E ow (10 + 3 * i) (wa i) tr (bfC h0 h1 tr.1) H := fun i hi => by obtain ⟨tr, ht⟩ := getq hi; exact ⟨tr, ht, hT5 i tr ht⟩
    refine lv_aload_n hx hb dX4_trade_100 rfl (lv_at hl 1 rfl) ?_
    refine gf hx hb hts hown hE lkX4_26 hO rfl dX4_trade_101 ?_
    refine lv_aload hx hb dX4_trade_104 (lv_at hl 0 rfl) ?_
    refine gV hx hb hml hts hown hB hE hS kwX4_99 (c_add E ow2 5 bk w ts.length wa 4 (tfs (mkT pa lo py fi fs le pe) db dh bd) RX3 TX3 13 H9 hL3 (by omega) hW3 rfl (by decide) (fun i hi => ?_) (by rw [hw2]; exact ⟨(by show (0 : Nat) ≠ 1; decide), (by show (0 : Nat) ≠ 2; decide)⟩) (fun i hi e9 => ?_)) hOb rfl (Nat.le_of_ble_eq_true rfl) rfl hl.1 rfl (Nat.le_of_ble_eq_true rfl) (by omega) (by omega) dX4_trade_106 (fun H10 L10 hG hz10 hE hS => ?_)
    · obtain ⟨tr, ht, dx, dy, dz, s1, -⟩ := hwa i hi
      exact ⟨_, pk1 s1 (hn3 _ (plt s1))⟩
    · obtain ⟨tr, ht, dx, dy, dz, s1, -, -, -, s5, -⟩ := hwa i hi
      obtain ⟨mo, arr, n9, f9, l1, l2, l3, l4, l5, l6, -⟩ := id hL5
      rw [e9, l6] at s5
      exact absurd (congrArg (fun z : Nat × Nat => z.2) s5) (by show ¬ (1 : Nat) = 0; decide)
    obtain ⟨hL4, hF4⟩ := hG
    have hN4 : ∀ z, z < H9.size → (ow2 z).1 ≠ 5 → H10[z]? = H9[z]? := fun z hz h9 => hF4.2 z hz (fun e => h9 (by rcases e with e | e <;> rw [e]))
    have e4 : ∀ z, z < H9.size → owx ow2 H9 (5, 2) z = ow2 z := fun z hz => owx_old hz
    have hO := hF4.at hO (by show ¬ (ow2 x = (5, 1) ∨ ow2 x = (5, 2)); rw [eo x hwl, hox]; decide)
    have low4 : ∀ z, z < eB E → H10[z]? = H9[z]? := fun z hz => (hS.low hH hB z hz).trans (lowM z hz).symm
    have hL8 := hL4.LR (by omega)
    obtain ⟨fs8, hOb8, -⟩ := hL8.ob
    refine lv_pop hx hb dX4_trade_109 rfl ?_
    refine lv_aload_n hx hb dX4_trade_110 rfl (lv_at hl 1 rfl) ?_
    refine gf hx hb hts hown hE lkX4_26 hO rfl dX4_trade_111 ?_
    refine pV hx hb hml hts hown hE kwX4_85 (c_size E bk (ts.length + 1) (va_up wa ts.length w) H10 hL8) hOb8 rfl (Nat.le_of_ble_eq_true rfl) rfl hl.1 rfl (Nat.le_of_ble_eq_true rfl) (by omega) (by omega) dX4_trade_114 ?_
    refine lv_iconst (v := 1) hx hb dX4_trade_117 (by decide) ?_
    refine lv_isub hx hb dX4_trade_118 ?_
    refine vx_ret (cI hx hb hr hlk hB hS (by omega) (by omega) ⟨⟨hcd, by rw [nI_pred]⟩, owx ow2 H9 (5, 2), fun z h9 => by rw [e4 z (by omega)]; exact eo z h9, fun z h9 => ?_, ⟨q, fd, bk, va_up wa ts.length w, hO, ?_, ?_, by rw [List.length_append]; exact hL4, fun u ur hu => ?_, by rw [e4 x (by omega), eo x hwl]; exact hox, hgx⟩, ⟨by have := hF4.1; omega, fun z h9 h8 => ?_⟩⟩ dX4_trade_119)
    · by_cases c9 : z < H9.size
      · rw [e4 z c9]; have := e2l z h9; omega
      · rw [owx_new (by omega)]; decide
    · exact hC5.kept (fun z hz => (low4 z hz).trans (lowM z hz)) hBF (fun z h9 h8 => (hN4 z (by omega) (by rw [eo z h9]; omega)).trans (hn3 z h9)) (fun z h9 => by rw [e4 z (by omega)]; exact eo z h9)
    · exact hD5.kept (fun z hz => (low4 z hz).trans (lowM z hz)) hBF (fun z h9 h8 => (hN4 z (by omega) (by rw [eo z h9]; omega)).trans (hn3 z h9)) (fun z h9 => by rw [e4 z (by omega)]; exact eo z h9)
    · rcases getA hu with ⟨hu1, hu2⟩ | ⟨hu1, hu2⟩
      · have e9 : va_up wa ts.length w u = wa u := by simp only [va_up, if_neg (Nat.ne_of_lt hu2)]
        rw [e9]
        exact (hT5 u ur hu1).kept (fun z hz => (low4 z hz).trans (lowM z hz)) hBF (fun z h9 h8 => (hN4 z (by omega) (by rw [eo z h9]; omega)).trans (hn3 z h9)) (fun z h9 => by rw [e4 z (by omega)]; exact eo z h9)
      · subst hu1 hu2
        have e9 : va_up wa ts.length w ts.length = w := by simp [va_up]
        rw [e9]
        exact ⟨db, dh, bd, pk1 hW3 (hN4 w (by omega) (by rw [hw2]; show 10 + 3 * ts.length ≠ 5; omega)), hdb.kept (fun z hz => (low4 z hz).trans ((lowM z hz).trans (lowN z hz).symm)) hBF (fun z h9 h8 => (hN4 z (by omega) (by omega)).trans (hF3.2 z h9 (fun e => by have e : z = bd := e; rw [e, hob] at h8; have h8 : 10 + 3 * ts.length = _ := h8; omega))) (fun z h9 => e4 z (by omega)), hdh.kept (fun z hz => (low4 z hz).trans ((lowM z hz).trans (lowN z hz).symm)) hBF (fun z h9 h8 => (hN4 z (by omega) (by omega)).trans (hF3.2 z h9 (fun e => by have e : z = bd := e; rw [e, hob] at h8; have h8 : 10 + 3 * ts.length = _ := h8; omega))) (fun z h9 => e4 z (by omega)), pk1 hbd3 (hN4 bd (by omega) (by rw [hob]; show 10 + 3 * ts.length ≠ 5; omega)), by rw [e4 w (by omega)]; exact hw2, by rw [e4 bd (by omega)]; exact hob, gw, gb⟩
    · have h8 : ¬ (ow z).1 ≠ 4 := h8
      exact (hN4 z (by omega) (by rw [eo z h9]; omega)).trans (hn3 z h9)
  · have c2 : 10 ≤ ts.length := by
      rcases Nat.lt_or_ge ts.length 10 with q9 | q9
      · exact absurd (nI_lt (a := ts.length) (b := 10) q9 (by decide)) c1
      · exact q9
    have hcd : cdTrd ts pa lo fi fs le pe = 3 := by unfold cdTrd; rw [g0, hall]; simp only [if_true]; exact if_pos c2
    exact tS (is := 88) (text := "no room for another trade") hx hb hml hlk hxt hts hown hE0 hH hS txS (by decide) (by rw [hcd]; exact ⟨by decide, rfl⟩) hl.1 (Nat.le_of_ble_eq_true rfl) (Nat.le_of_ble_eq_true rfl) (by omega) (by omega) dX4_trade_61 dX4_trade_64 dX4_trade_65 dX4_trade_67 dX4_trade_70
end
section
/-- pressing -/
abbrev PS : Type := List TR × Int32 × Nat × BK
def mnR (tr ur : TR) : Int32 := if rstS tr.1 tr.2.1 < rstS ur.1 ur.2.1 then rstS tr.1 tr.2.1 else rstS ur.1 ur.2.1
def prD (h0 h1 : Dy) (day : Int32) (tr ur : TR) : Bool := (fitS tr.1 ur.1 && smeS tr.1 ur.1 tr.2.2 ur.2.2 (bfC h0 h1 tr.1) day (np tr)) && decide (0 < mnR tr ur)
def brT (tr : TR) (day v : Int32) : TR := (tr.1, tr.2.1 ++ [(day, v)], tr.2.2)
def pst (h0 h1 : Dy) (day : Int32) (i j : Nat) (P : PS) : PS := match P.1[i]?, P.1[j]? with
  | some tr, some ur => if prD h0 h1 day tr ur then ((P.1.set i (brT tr day (mnR tr ur))).set j (brT ur day (mnR tr ur)), P.2.1 + mnR tr ur, P.2.2.1 + 1, P.2.2.2 ++ [(nI i, day, mnR tr ur), (nI j, day, mnR tr ur)]) else P
  | _, _ => P
def pin (h0 h1 : Dy) (day : Int32) (i : Nat) : Nat → Nat → PS → PS
  | 0, _, P => P
  | r + 1, j, P => pin h0 h1 day i r (j + 1) (pst h0 h1 day i j P)
def pou (h0 h1 : Dy) (day : Int32) (n : Nat) : Nat → Nat → PS → PS
  | 0, _, P => P
  | r + 1, i, P => pou h0 h1 day n r (i + 1) (pin h0 h1 day i (n - (i + 1)) (i + 1) P)
def prs (h0 h1 : Dy) (day : Int32) (ts : List TR) : PS := pou h0 h1 day ts.length ts.length 0 (ts, 0, 0, [])
theorem pst_at {h0 h1 : Dy} {day : Int32} {i j : Nat} {P : PS} {tr ur : TR} (hi : P.1[i]? = some tr) (hj : P.1[j]? = some ur) : pst h0 h1 day i j P = if prD h0 h1 day tr ur then ((P.1.set i (brT tr day (mnR tr ur))).set j (brT ur day (mnR tr ur)), P.2.1 + mnR tr ur, P.2.2.1 + 1, P.2.2.2 ++ [(nI i, day, mnR tr ur), (nI j, day, mnR tr ur)]) else P := by
  unfold pst
  rw [hi, hj]
theorem pst_mono (h0 h1 : Dy) (day : Int32) (i j : Nat) (P : PS) : P.2.2.1 ≤ (pst h0 h1 day i j P).2.2.1 := by
  unfold pst
  split
  · split
    · exact Nat.le_succ _
    · exact Nat.le_refl _
  · exact Nat.le_refl _
theorem pin_mono (h0 h1 : Dy) (day : Int32) (i : Nat) : ∀ r j P, P.2.2.1 ≤ (pin h0 h1 day i r j P).2.2.1
  | 0, _, _ => Nat.le_refl _
  | r + 1, j, P => Nat.le_trans (pst_mono h0 h1 day i j P) (pin_mono h0 h1 day i r (j + 1) _)
theorem pou_mono (h0 h1 : Dy) (day : Int32) (n : Nat) : ∀ r i P, P.2.2.1 ≤ (pou h0 h1 day n r i P).2.2.1
  | 0, _, _ => Nat.le_refl _
  | r + 1, i, P => Nat.le_trans (pin_mono h0 h1 day i _ _ P) (pou_mono h0 h1 day n r (i + 1) _)
theorem TV.brT {tr : TR} (h : TV tr) {d : Nat} (hd : d ≤ 3000) (v : Int32) : TV (brT tr (nI d) v) := by
  obtain ⟨pa, lo, f, le, n, v1, v2, v3, v4, v5, v6, v7, v8, t0, t1, t2, t4, t5, t6, t8, t9, tb, th⟩ := h
  refine ⟨pa, lo, f, le, n, v1, v2, v3, v4, v5, v6, v7, v8, t0, t1, t2, t4, t5, t6, t8, t9, fun y hy => ?_, th⟩
  rcases List.mem_append.mp hy with c | c
  · exact tb y c
  · rw [List.mem_singleton.mp c]; exact ⟨d, hd, rfl⟩
theorem SV.set {h0 h1 fx : Dy} {ts : List TR} (hV : SV h0 h1 fx ts) {i : Nat} {tr : TR} (h : TV tr) : SV h0 h1 fx (ts.set i tr) := by
  obtain ⟨v1, v2, v3, v4, v5, v6, v7, v8, v9⟩ := hV
  exact ⟨v1, v2, v3, v4, v5, v6, v7, by rw [List.length_set]; exact v8, fun y hy => (List.mem_or_eq_of_mem_set hy).elim (v9 y) (fun e => e ▸ h)⟩
/-- what holds of the trades all along the pressing -/
def PV (h0 h1 fx : Dy) (n K : Nat) (P : PS) : Prop := P.1.length = n ∧ SV h0 h1 fx P.1 ∧ ∀ tr ∈ P.1, tr.2.1.length ≤ K + P.2.2.1
theorem PV.st {h0 h1 fx : Dy} {n K d i j : Nat} {P : PS} (h : PV h0 h1 fx n K P) (hd : d ≤ 3000) : PV h0 h1 fx n K (pst h0 h1 (nI d) i j P) := by
  obtain ⟨h1', h2, h3⟩ := h
  unfold pst
  split
  · rename_i tr ur hi hj
    split
    · refine ⟨by simp [h1'], (h2.set ((h2.tv hi).brT hd _)).set ((h2.tv hj).brT hd _), fun y hy => ?_⟩
      show y.2.1.length ≤ K + (P.2.2.1 + 1)
      have a1 := h3 tr (List.mem_of_getElem? hi)
      have a2 := h3 ur (List.mem_of_getElem? hj)
      have L : ∀ (z : TR) v, (brT z (nI d) v).2.1.length = z.2.1.length + 1 := fun z v => by unfold brT; rw [List.length_append]; rfl
      rcases List.mem_or_eq_of_mem_set hy with hy | e
      · rcases List.mem_or_eq_of_mem_set hy with hy | e
        · have := h3 y hy; omega
        · rw [e, L]; omega
      · rw [e, L]; omega
    · exact ⟨h1', h2, h3⟩
  · exact ⟨h1', h2, h3⟩
theorem XRx.lab {E : ET} {ow ow' : Nat → Nat × Nat} {x q fd bk : Nat} {wa : Nat → Nat} {h0 h1 fx : Dy} {ts : List TR} {H : Heap} (h : XRx E ow x q fd bk wa h0 h1 fx ts H) (hw : ∀ z, z < H.size → ow' z = ow z) : XRx E ow' x q fd bk wa h0 h1 fx ts H := by
  obtain ⟨hO, ⟨d0, d1, c1, c2, c3, c4, c5⟩, hD, hL, hT, hx, hg⟩ := h
  refine ⟨hO, ⟨d0, d1, c1, c2.same hw, c3.same hw, by rw [hw q (plt c1)]; exact c4, c5⟩, hD.same hw, hL.same hw, fun t tr ht => ?_, by rw [hw x (plt hO)]; exact hx, hg⟩
  obtain ⟨db, dh, bd, s1, s2, s3, s4, s5, s6, s7, s8⟩ := hT t tr ht
  exact ⟨db, dh, bd, s1, s2.same hw, s3.same hw, s4, by rw [hw _ (plt s1)]; exact s5, by rw [hw _ (plt s4)]; exact s6, s7, s8⟩
set_option maxRecDepth 100000 in
set_option maxHeartbeats 4000000 in
/-- pressPair -/
theorem c_ppair (E : ET) (ow : Nat → Nat × Nat) (x q fd bk : Nat) (wa : Nat → Nat) (h0 h1 fx : Dy) (ts : List TR) (i j : Nat) (tr ur : TR) (day : Int32) (K mc0 ms0 : Nat) (H : Heap) (hX : XRx E ow x q fd bk wa h0 h1 fx ts H) (hV : SV h0 h1 fx ts) (hi : ts[i]? = some tr) (hj : ts[j]? = some ur) (hij : i ≠ j) (hK : ∀ tr ∈ ts, tr.2.1.length ≤ K) (hK5 : K ≤ 5000) (hmc : prD h0 h1 day tr ur = true → 4 ≤ mc0 ∧ 2 * (2 + (2 * K + 10)) ≤ ms0) : Con E yX4_pressPair cX4_pressPair 4 (some FieldType.int) 9 mc0 ms0 [.ref (wa i), .ref (wa j), .int day] H (o1 (some (.int (if prD h0 h1 day tr ur then mnR tr ur else 0))) (fun H' => ∃ ow' : Nat → Nat × Nat, (∀ z, z < H.size → ow' z = ow z) ∧ (∀ z, H.size ≤ z → 10 ≤ (ow' z).1) ∧ XRx E ow' x q fd bk wa h0 h1 fx (if prD h0 h1 day tr ur then (ts.set i (brT tr day (mnR tr ur))).set j (brT ur day (mnR tr ur)) else ts) H' ∧ FR (fun z => 10 ≤ (ow z).1) H H')) := by
  refine Con.of (C := RX4) rfl (by decide +kernel) (Nat.le_of_ble_eq_true rfl) ?_
  intro p e s m below meth co ls hx hb hr hlk hml hown hts hin hE hH hS hl
  have hl : lv_has ls 4 [(0, .ref (wa i)), (1, .ref (wa j)), (2, .int day)] := hl
  have hB : eB E ≤ s.heap.size := by rw [hH]; exact hE.2.1
  have hBF := hE.2.2.1
  have k1 := hK tr (List.mem_of_getElem? hi)
  have k2 := hK ur (List.mem_of_getElem? hj)
  have q1 : tr.2.2.length ≤ 10 := by obtain ⟨pa, lo, f, le, n, -, -, -, -, -, -, -, -, -, -, -, -, -, -, -, -, -, hh⟩ := hV.tv hi; exact hh
  have q2 : ur.2.2.length ≤ 10 := by obtain ⟨pa, lo, f, le, n, -, -, -, -, -, -, -, -, -, -, -, -, -, -, -, -, -, hh⟩ := hV.tv hj; exact hh
  obtain ⟨db, dh, bd, hW0, hdb, hdh, hbd, how, hob, gw, gb⟩ := hX.2.2.2.2.1 i tr hi
  obtain ⟨dc, di, be, hU0, hdc, hdi, hbe, hou, hoe, gu, ge⟩ := hX.2.2.2.2.1 j ur hj
  have hW : SRx E (wa i) tr.1 db dh bd (bfC h0 h1 tr.1) tr.2.1 tr.2.2 H := ⟨hW0, hdb.DR (by omega), hdh.DR (by omega), hbd⟩
  have hU : SRx E (wa j) ur.1 dc di be (bfC h0 h1 ur.1) ur.2.1 ur.2.2 H := ⟨hU0, hdc.DR (by omega), hdi.DR (by omega), hbe⟩
  obtain ⟨n6, n1, n10⟩ := (hV.tv hi).n
  obtain ⟨mi, hmi⟩ : ∃ z, z = mnR tr ur := ⟨_, rfl⟩
  refine lv_aload_n hx hb dX4_pressPair_0 rfl (lv_at hl 0 rfl) ?_
  refine lv_aload_n hx hb dX4_pressPair_1 rfl (lv_at hl 1 rfl) ?_
  refine pV hx hb hml hts hown hE kwX4_195 (c_fits E (wa i) (wa j) tr.1 ur.1 db dh bd dc di be H hW0 hU0) hW0 rfl (Nat.le_of_ble_eq_true rfl) rfl hl.1 rfl (Nat.le_of_ble_eq_true rfl) (by omega) (by omega) dX4_pressPair_2 ?_
  cases c1 : fitS tr.1 ur.1 with
  | false =>
    refine lv_if_eq (tgt := 17) hx hb dX4_pressPair_5 (by decide) (fun c2 => ?_) (fun c2 => ?_)
    rotate_left
    · exact absurd (by decide) c2
    have hpr : prD h0 h1 day tr ur = false := by unfold prD; rw [c1]; simp
    refine lv_iconst (v := 0) hx hb dX4_pressPair_17 (by decide) ?_
    exact cI hx hb hr hlk hB hS (by omega) (by omega) (⟨by rw [hpr]; rfl, owx ow H (10, 0), fun z h9 => owx_old h9, fun z h9 => by rw [owx_new h9]; decide, by rw [hpr]; exact hX.lab (fun z h9 => owx_old h9), FR.rf⟩) dX4_pressPair_18
  | true =>
    refine lv_if_eq (tgt := 17) hx hb dX4_pressPair_5 (by decide) (fun c2 => ?_) (fun c2 => ?_)
    · exact absurd c2 (by decide)
    refine lv_aload_n hx hb dX4_pressPair_8 rfl (lv_at hl 0 rfl) ?_
    refine lv_iload_n hx hb dX4_pressPair_9 rfl (lv_at hl 2 rfl) ?_
    refine lv_aload_n hx hb dX4_pressPair_10 rfl (lv_at hl 1 rfl) ?_
    refine pV hx hb hml hts hown hE kwX4_199 (c_same E (wa i) tr.1 db dh bd (bfC h0 h1 tr.1) tr.2.1 tr.2.2 (wa j) (np tr) ur.1 dc di be (bfC h0 h1 ur.1) ur.2.1 ur.2.2 day H n6 n10 hW hU) hW0 rfl (Nat.le_of_ble_eq_true rfl) rfl hl.1 rfl (Nat.le_of_ble_eq_true rfl) (by omega) (by omega) dX4_pressPair_11 ?_
    cases c3 : smeS tr.1 ur.1 tr.2.2 ur.2.2 (bfC h0 h1 tr.1) day (np tr) with
    | false =>
      refine lv_if_ne (tgt := 19) hx hb dX4_pressPair_14 (by decide) (fun c4 => ?_) (fun c4 => ?_)
      · exact absurd (by decide) c4
      have hpr : prD h0 h1 day tr ur = false := by unfold prD; rw [c1, c3]; simp
      refine lv_iconst (v := 0) hx hb dX4_pressPair_17 (by decide) ?_
      exact cI hx hb hr hlk hB hS (by omega) (by omega) (⟨by rw [hpr]; rfl, owx ow H (10, 0), fun z h9 => owx_old h9, fun z h9 => by rw [owx_new h9]; decide, by rw [hpr]; exact hX.lab (fun z h9 => owx_old h9), FR.rf⟩) dX4_pressPair_18
    | true =>
      refine lv_if_ne (tgt := 19) hx hb dX4_pressPair_14 (by decide) (fun c4 => ?_) (fun c4 => ?_)
      rotate_left
      · exact absurd c4 (by decide)
      refine lv_aload_n hx hb dX4_pressPair_19 rfl (lv_at hl 0 rfl) ?_
      refine pV hx hb hml hts hown hE kwX4_121 (c_rest E (wa i) tr.1 db dh bd (bfC h0 h1 tr.1) tr.2.1 tr.2.2 H hW) hW0 rfl (Nat.le_of_ble_eq_true rfl) rfl hl.1 rfl (Nat.le_of_ble_eq_true rfl) (by omega) (by omega) dX4_pressPair_20 ?_
      refine lv_aload_n hx hb dX4_pressPair_23 rfl (lv_at hl 1 rfl) ?_
      refine pV hx hb hml hts hown hE kwX4_121 (c_rest E (wa j) ur.1 dc di be (bfC h0 h1 ur.1) ur.2.1 ur.2.2 H hU) hU0 rfl (Nat.le_of_ble_eq_true rfl) rfl hl.1 rfl (Nat.le_of_ble_eq_true rfl) (by omega) (by omega) dX4_pressPair_24 ?_
      refine va_mmin hx hb (by rw [hml]; exact hl.1.symm) hown (hts _ qw2_233) (hts _ qw2_61) (hts _ qw1_14) (hts _ qw2_62) (Nat.le_of_ble_eq_true rfl) (by show _ ≤ 360; simp [Value.category]) (by omega) (by omega) dX4_pressPair_27 ?_
      try rw [show (if rstS ur.1 ur.2.1 < rstS tr.1 tr.2.1 then rstS ur.1 ur.2.1 else rstS tr.1 tr.2.1) = (if rstS tr.1 tr.2.1 < rstS ur.1 ur.2.1 then rstS tr.1 tr.2.1 else rstS ur.1 ur.2.1) from min_sw]
      rw [show (if rstS tr.1 tr.2.1 < rstS ur.1 ur.2.1 then rstS tr.1 tr.2.1 else rstS ur.1 ur.2.1) = mi from hmi.symm]
      refine lv_istore_n (lv' := [(3, .int mi), (0, .ref (wa i)), (1, .ref (wa j)), (2, .int day)]) hx hb dX4_pressPair_30 rfl hl (by decide) rfl (fun ls hl => ?_)
      refine lv_iload_n hx hb dX4_pressPair_31 rfl (lv_at hl 0 rfl) ?_
      refine lv_if_gt (tgt := 37) hx hb dX4_pressPair_32 (by decide) (fun c5 => ?_) (fun c5 => ?_)
      · have hpr : prD h0 h1 day tr ur = true := by unfold prD; rw [c1, c3, ← hmi]; simpa using c5
        obtain ⟨hm1, hm2⟩ := hmc hpr
        obtain ⟨a9, ad9, hD8, -⟩ := hdb.DRx (by omega)
        have hD0 := hD8.1
        refine lv_aload_n hx hb dX4_pressPair_37 rfl (lv_at hl 1 rfl) ?_
        refine gf hx hb hts hown hE lkX4_106 hW0 rfl dX4_pressPair_38 ?_
        refine lv_iload_n hx hb dX4_pressPair_41 rfl (lv_at hl 3 rfl) ?_
        refine lv_iload_n hx hb dX4_pressPair_42 rfl (lv_at hl 0 rfl) ?_
        refine gVU hx hb hml hts hown hB hE hS kwX4_58 (c_dadd E ow (10 + 3 * i + 1) db tr.2.1 day mi H hdb (by omega)) hD0 rfl (Nat.le_of_ble_eq_true rfl) rfl hl.1 rfl (Nat.le_of_ble_eq_true rfl) (by omega) (by omega) dX4_pressPair_43 (fun H1 L1 hG hz1 hE hS => ?_)
        obtain ⟨ow1, e1, e2, hS1, hF1⟩ := SRo.brk hW0 hdh hbd how hob gw gb (hS.low hH hB) hBF hG
        have low1 := hS.low hH hB
        have hN1 : ∀ z, z < H.size → ¬ (10 + 3 * i ≤ (ow z).1 ∧ (ow z).1 ≤ 10 + 3 * i + 2) → H1[z]? = H[z]? := fun z h9 h8 => hF1.2 z h9 (fun e => h8 (by have e : (ow z).1 = _ := e; omega))
        have hX1 := hX.swp hi hS1 hN1 low1 hBF e1
        have hj1 : (ts.set i (tr.1, tr.2.1 ++ [(day, mi)], tr.2.2))[j]? = some ur := by rw [List.getElem?_set_ne hij]; exact hj
        obtain ⟨dc, di, be, hU0, hdc, hdi, hbe, hou, hoe, gu, ge⟩ := hX1.2.2.2.2.1 j ur hj1
        obtain ⟨a8, ad8, hD7, -⟩ := hdc.DRx (by omega)
        have hD6 := hD7.1
        refine lv_aload_n hx hb dX4_pressPair_46 rfl (lv_at hl 2 rfl) ?_
        refine gf hx hb hts hown hE lkX4_106 hU0 rfl dX4_pressPair_47 ?_
        refine lv_iload_n hx hb dX4_pressPair_50 rfl (lv_at hl 3 rfl) ?_
        refine lv_iload_n hx hb dX4_pressPair_51 rfl (lv_at hl 0 rfl) ?_
        refine gVU hx hb hml hts hown hB hE hS kwX4_58 (c_dadd E ow1 (10 + 3 * j + 1) dc ur.2.1 day mi H1 hdc (by omega)) hD6 rfl (Nat.le_of_ble_eq_true rfl) rfl hl.1 rfl (Nat.le_of_ble_eq_true rfl) (by omega) (by omega) dX4_pressPair_52 (fun H2 L2 hG hz2 hE hS => ?_)
        have low2 : ∀ z, z < eB E → H2[z]? = H1[z]? := fun z hz => (hS.low hH hB z hz).trans (low1 z hz).symm
        obtain ⟨ow2, e3, e4, hS2, hF2⟩ := SRo.brk hU0 hdi hbe hou hoe gu ge low2 hBF hG
        have hN2 : ∀ z, z < H1.size → ¬ (10 + 3 * j ≤ (ow1 z).1 ∧ (ow1 z).1 ≤ 10 + 3 * j + 2) → H2[z]? = H1[z]? := fun z h9 h8 => hF2.2 z h9 (fun e => h8 (by have e : (ow1 z).1 = _ := e; omega))
        have hX3 := hX1.swp hj1 hS2 hN2 low2 hBF e3
        have hzz := hF1.1
        have hzy := hF2.1
        refine lv_iload_n hx hb dX4_pressPair_55 rfl (lv_at hl 0 rfl) ?_
        rw [hmi] at hX3
        refine cI hx hb hr hlk hB hS (by omega) (by omega) (⟨by rw [hpr, hmi]; rfl, ow2, fun z h9 => by rw [e3 z (by omega)]; exact e1 z h9, fun z h9 => ?_, by rw [hpr]; exact hX3, ⟨Nat.le_trans hzz hzy, fun z h9 h8 => ?_⟩⟩) dX4_pressPair_56
        · rcases Nat.lt_or_ge z H1.size with c9 | c9
          · rw [e3 z c9, e2 z h9]; omega
          · rw [e4 z c9]; omega
        · have h8 : ¬ 10 ≤ (ow z).1 := h8
          exact (hN2 z (by omega) (by rw [e1 z h9]; omega)).trans (hN1 z h9 (by omega))
      · have c6 : decide (0 < mnR tr ur) = false := by rw [← hmi]; simpa using c5
        have hpr : prD h0 h1 day tr ur = false := by unfold prD; rw [c6]; simp
        refine lv_iconst (v := 0) hx hb dX4_pressPair_35 (by decide) ?_
        exact cI hx hb hr hlk hB hS (by omega) (by omega) (⟨by rw [hpr]; rfl, owx ow H (10, 0), fun z h9 => owx_old h9, fun z h9 => by rw [owx_new h9]; decide, by rw [hpr]; exact hX.lab (fun z h9 => owx_old h9), FR.rf⟩) dX4_pressPair_36
end
section
/-- the office all along the pressing -/
def PI (E : ET) (ow0 : Nat → Nat × Nat) (x q fd bk : Nat) (wa : Nat → Nat) (h0 h1 fx : Dy) (n K : Nat) (P : PS) (H0 H : Heap) (ow : Nat → Nat × Nat) : Prop := XRx E ow x q fd bk wa h0 h1 fx P.1 H ∧ PV h0 h1 fx n K P ∧ (∀ z, z < H0.size → ow z = ow0 z) ∧ (∀ z, H0.size ≤ z → 10 ≤ (ow z).1) ∧ FR (fun z => 10 ≤ (ow0 z).1) H0 H
theorem PI.st {E : ET} {ow0 ow ow' : Nat → Nat × Nat} {x q fd bk : Nat} {wa : Nat → Nat} {h0 h1 fx : Dy} {n K d i j : Nat} {P : PS} {tr ur : TR} {H0 H H1 : Heap} (h : PI E ow0 x q fd bk wa h0 h1 fx n K P H0 H ow) (hd : d ≤ 3000) (hi : P.1[i]? = some tr) (hj : P.1[j]? = some ur) (e1 : ∀ z, z < H.size → ow' z = ow z) (e2 : ∀ z, H.size ≤ z → 10 ≤ (ow' z).1) (hX : XRx E ow' x q fd bk wa h0 h1 fx (if prD h0 h1 (nI d) tr ur then (P.1.set i (brT tr (nI d) (mnR tr ur))).set j (brT ur (nI d) (mnR tr ur)) else P.1) H1) (hF : FR (fun z => 10 ≤ (ow z).1) H H1) : PI E ow0 x q fd bk wa h0 h1 fx n K (pst h0 h1 (nI d) i j P) H0 H1 ow' := by
  obtain ⟨g1, g2, g3, g4, g5⟩ := h
  have gz := g5.1
  refine ⟨?_, g2.st hd, fun z hz => by rw [e1 z (by omega)]; exact g3 z hz, fun z hz => ?_, g5.tr hF (fun z hz hm => ?_)⟩
  · rw [pst_at hi hj]
    cases c : prD h0 h1 (nI d) tr ur with
    | true => rw [c] at hX; exact hX
    | false => rw [c] at hX; exact hX
  · rcases Nat.lt_or_ge z H.size with c | c
    · rw [e1 z c]; exact g4 z hz
    · exact e2 z c
  · show 10 ≤ (ow0 z).1
    rw [← g3 z hz]
    exact hm
theorem PV.in {h0 h1 fx : Dy} {n K d i : Nat} (hd : d ≤ 3000) : ∀ r j (P : PS), PV h0 h1 fx n K P → PV h0 h1 fx n K (pin h0 h1 (nI d) i r j P)
  | 0, _, _, h => h
  | r + 1, j, _, h => PV.in hd r (j + 1) _ (h.st hd)
set_option maxRecDepth 100000 in
set_option maxHeartbeats 4000000 in
/-- press -/
theorem c_xpress (E : ET) (ow : Nat → Nat × Nat) (x : Nat) (h0 h1 fx : Dy) (ts : List TR) (d : Int32) (K KK : Nat) (H : Heap) (hX : XR E ow x h0 h1 fx ts H) (hV : SV h0 h1 fx ts) (hK : BL ts) (hK9 : ∀ tr ∈ ts, tr.2.1.length ≤ K) (hKK : K + (prs h0 h1 d ts).2.2.1 ≤ KK) (hKK5 : KK ≤ 5000) : XCon E yX4_press cX4_press 5 (some FieldType.int) 10 (1 + 4 * (prs h0 h1 d ts).2.2.1) (6 + 2 * (2 + (2 * KK + 10)) * (prs h0 h1 d ts).2.2.1) [.ref x, .int d] H (fun v H' => (inB d 0 3000 = true ∧ v = some (.int (prs h0 h1 d ts).2.1)) ∧ XOut E ow x h0 h1 fx (prs h0 h1 d ts).1 H H') (fun X => X = xA ∧ inB d 0 3000 = false) := by
  refine XCon.of (C := RX4) rfl (by decide +kernel) (Nat.le_of_ble_eq_true rfl) ?_
  intro p e s m below meth co ls hx hb hr hlk hml hown hts hxt hE hH hS hl
  have hl : lv_has ls 5 [(0, .ref x), (1, .int d)] := hl
  have hB : eB E ≤ s.heap.size := by rw [hH]; exact hE.2.1
  have hE0 : EV E s s.heap := by rw [hH]; exact hE
  obtain ⟨q, fd, bk, wa, hX2⟩ := hX.x
  obtain ⟨hC, hD, hL, hT⟩ := hX2.rd hV hK
  have hO := hX2.1
  have hBF := hE.2.2.1
  have htn := hV.tn
  refine lv_iload_n hx hb dX4_press_0 rfl (lv_at hl 1 rfl) ?_
  refine lv_iconst (v := 0) hx hb dX4_press_1 (by decide) ?_
  refine lv_sipush (v := 3000) hx hb dX4_press_2 (by decide) ?_
  refine xSc hx hb hml hlk hxt hts hown hB hE hH hS kwX4_37 (c_crange E d 0 3000 H) (fun _ h => h) (Nat.le_of_ble_eq_true rfl) rfl hl.1 rfl (Nat.le_of_ble_eq_true rfl) (by omega) (by omega) dX4_press_5 (fun v1 H1 L1 ho1 hz1 hE hS => ?_)
  obtain ⟨g1, hv1, hh1⟩ := ho1
  subst hv1
  have hh1 := hh1.symm
  subst hh1
  dsimp only [Option.toList, List.nil_append, List.cons_append]
  obtain ⟨nd, hnd, ed⟩ := inB_nI (n := 3000) g1
  subst ed
  obtain ⟨PF, hPF⟩ : ∃ z, z = prs h0 h1 (nI nd) ts := ⟨_, rfl⟩
  rw [← hPF] at hKK
  rw [← hPF]
  obtain ⟨D, hD9⟩ : ∃ z, z = 2 * (2 + (2 * KK + 10)) := ⟨_, rfl⟩
  rw [← hD9]
  have hP0 : PI E (owx ow H (10, 0)) x q fd bk wa h0 h1 fx ts.length K (ts, 0, 0, []) H H (owx ow H (10, 0)) := ⟨hX2.lab (fun z h9 => owx_old h9), ⟨rfl, hV, fun tr ht => by have := hK9 tr ht; show _ ≤ K + 0; omega⟩, fun _ _ => rfl, fun z hz => by rw [owx_new hz]; exact Nat.le_refl _, FR.rf⟩
  refine lv_iconst (v := 0) hx hb dX4_press_8 (by decide) ?_
  refine lv_istore_n (lv' := [(2, .int 0), (0, .ref x), (1, .int (nI nd))]) hx hb dX4_press_9 rfl hl (by decide) rfl (fun ls hl => ?_)
  refine lv_iconst (v := 0) hx hb dX4_press_10 (by decide) ?_
  refine lv_istore_n (lv' := [(3, .int 0), (2, .int 0), (0, .ref x), (1, .int (nI nd))]) hx hb dX4_press_11 rfl hl (by decide) rfl (fun ls hl => ?_)
  have loop : ∀ (r i : Nat) (P : PS) (G : Heap) (o : Nat → Nat × Nat) (locs : List Loc) (ls : Array Slot), i + r = ts.length → pou h0 h1 (nI nd) ts.length r i P = PF → PI E (owx ow H (10, 0)) x q fd bk wa h0 h1 fx ts.length K P H G o → EV E s G → va_S (fr E) s.heap G locs → lv_has ls 5 [(3, .int (nI i)), (2, .int P.2.1), (0, .ref x), (1, .int (nI nd))] → W p (eL E) e (rmk 10 (1 + 4 * PF.2.2.1) (6 + D * PF.2.2.1)) s m ([.ref x, .int (nI nd)]).toArray below meth co G locs (1 + 4 * P.2.2.1) (6 + D * P.2.2.1) (vx_MQ below (CQ E (fun v H' => (inB (nI nd) 0 3000 = true ∧ v = some (.int PF.2.1)) ∧ XOut E ow x h0 h1 fx PF.1 H H')) (XQ E (fun X => X = xA ∧ inB (nI nd) 0 3000 = false)) ([.ref x, .int (nI nd)]).toArray s (1 + 4 * PF.2.2.1) (6 + D * PF.2.2.1) (fr E)) (F0 m 12 ls []) := by
    intro r
    induction r with
    | zero =>
      intro i P G o locs ls hi hpf hJ hE hS hl
      obtain ⟨hXg, hPv, ho1, ho2, hFg⟩ := id hJ
      have hln := hPv.1
      have hO := hXg.1
      have hL0 := hXg.2.2.2.1
      rw [hln] at hL0
      have hL := hL0.LR (by omega)
      obtain ⟨fs0, hOb, hcl⟩ := hL.ob
      have hi2 : i = ts.length := by omega
      have hpf : P = PF := hpf
      have hq1 : 1 + 4 * P.2.2.1 ≤ 1 + 4 * PF.2.2.1 := by rw [hpf]; exact Nat.le_refl _
      have hq2 : 6 + D * P.2.2.1 ≤ 6 + D * PF.2.2.1 := by rw [hpf]; exact Nat.le_refl _
      refine lv_iload_n hx hb dX4_press_12 rfl (lv_at hl 0 rfl) ?_
      refine lv_aload_n hx hb dX4_press_13 rfl (lv_at hl 2 rfl) ?_
      refine gf hx hb hts hown hE lkX4_26 hO rfl dX4_press_14 ?_
      refine pV hx hb hml hts hown hE kwX4_85 (c_size E bk ts.length wa G hL) hOb rfl (Nat.le_of_ble_eq_true rfl) rfl hl.1 rfl (Nat.le_of_ble_eq_true rfl) (by omega) (by omega) dX4_press_17 ?_
      refine lv_icmp_ge (tgt := 82) hx hb dX4_press_20 (by decide) (fun c9 => ?_) (fun c9 => ?_)
      rotate_left
      · exact absurd (nI_le (by omega) (by omega)) c9
      refine lv_iload_n hx hb dX4_press_82 rfl (lv_at hl 1 rfl) ?_
      have hgz := hFg.1
      exact vx_ret (cI hx hb hr hlk hB hS hq1 hq2 (⟨⟨g1, by rw [hpf]⟩, o, fun z h9 => by rw [ho1 z h9, owx_old h9], fun z h9 => by have := ho2 z h9; omega, by rw [← hpf]; exact hXg.R, ⟨hgz, fun z h9 h8 => hFg.2 z h9 (by show ¬ 10 ≤ (owx ow H (10, 0) z).1; rw [owx_old h9]; have h8 : ¬ (ow z).1 ≠ 4 := h8; omega)⟩⟩) dX4_press_83)
    | succ r ih =>
      intro i P G o locs ls hi hpf hJ hE hS hl
      have hlt : i < ts.length := by omega
      obtain ⟨hXg, hPv, ho1, ho2, hFg⟩ := id hJ
      have hln := hPv.1
      have hO := hXg.1
      have hL0 := hXg.2.2.2.1
      rw [hln] at hL0
      have hL := hL0.LR (by omega)
      obtain ⟨fs0, hOb, hcl⟩ := hL.ob
      have hq1 : P.2.2.1 ≤ PF.2.2.1 := by rw [← hpf]; exact pou_mono h0 h1 (nI nd) ts.length (r + 1) i P
      have hq2 := Nat.mul_le_mul_left D hq1
      refine lv_iload_n hx hb dX4_press_12 rfl (lv_at hl 0 rfl) ?_
      refine lv_aload_n hx hb dX4_press_13 rfl (lv_at hl 2 rfl) ?_
      refine gf hx hb hts hown hE lkX4_26 hO rfl dX4_press_14 ?_
      refine pV hx hb hml hts hown hE kwX4_85 (c_size E bk ts.length wa G hL) hOb rfl (Nat.le_of_ble_eq_true rfl) rfl hl.1 rfl (Nat.le_of_ble_eq_true rfl) (by omega) (by omega) dX4_press_17 ?_
      refine lv_icmp_ge (tgt := 82) hx hb dX4_press_20 (by decide) (fun c9 => ?_) (fun c9 => ?_)
      · exact absurd c9 (nI_ge hlt (by omega))
      refine lv_iload_n hx hb dX4_press_23 rfl (lv_at hl 0 rfl) ?_
      refine lv_iconst (v := 1) hx hb dX4_press_24 (by decide) ?_
      refine lv_iadd hx hb dX4_press_25 ?_
      rw [show nI i + 1 = nI (i + 1) from nI_1 i]
      refine lv_istore (lv' := [(4, .int (nI (i + 1))), (3, .int (nI i)), (2, .int P.2.1), (0, .ref x), (1, .int (nI nd))]) hx hb dX4_press_26 hl (by decide) rfl (fun ls hl => ?_)
      have hpf2 : pou h0 h1 (nI nd) ts.length r (i + 1) (pin h0 h1 (nI nd) i (ts.length - (i + 1)) (i + 1) P) = PF := hpf
      generalize hPE : pin h0 h1 (nI nd) i (ts.length - (i + 1)) (i + 1) P = PE at hpf2
      have hcE : PE.2.2.1 ≤ PF.2.2.1 := by rw [← hpf2]; exact pou_mono h0 h1 (nI nd) ts.length r (i + 1) PE
      clear hpf hXg hPv ho1 ho2 hFg hO hL0 hL hOb hln
      have loop2 : ∀ (u j : Nat) (P : PS) (G : Heap) (o : Nat → Nat × Nat) (locs : List Loc) (ls : Array Slot), i < j → j + u = ts.length → pin h0 h1 (nI nd) i u j P = PE → PI E (owx ow H (10, 0)) x q fd bk wa h0 h1 fx ts.length K P H G o → EV E s G → va_S (fr E) s.heap G locs → lv_has ls 5 [(4, .int (nI j)), (3, .int (nI i)), (2, .int P.2.1), (0, .ref x), (1, .int (nI nd))] → W p (eL E) e (rmk 10 (1 + 4 * PF.2.2.1) (6 + D * PF.2.2.1)) s m ([.ref x, .int (nI nd)]).toArray below meth co G locs (1 + 4 * P.2.2.1) (6 + D * P.2.2.1) (vx_MQ below (CQ E (fun v H' => (inB (nI nd) 0 3000 = true ∧ v = some (.int PF.2.1)) ∧ XOut E ow x h0 h1 fx PF.1 H H')) (XQ E (fun X => X = xA ∧ inB (nI nd) 0 3000 = false)) ([.ref x, .int (nI nd)]).toArray s (1 + 4 * PF.2.2.1) (6 + D * PF.2.2.1) (fr E)) (F0 m 28 ls []) := by
        intro u
        induction u with
        | zero =>
          intro j P G o locs ls hij hj hpe hJ hE hS hl
          obtain ⟨hXg, hPv, ho1, ho2, hFg⟩ := id hJ
          have hln := hPv.1
          have hO := hXg.1
          have hL0 := hXg.2.2.2.1
          rw [hln] at hL0
          have hL := hL0.LR (by omega)
          obtain ⟨fs0, hOb, hcl⟩ := hL.ob
          have hj2 : j = ts.length := by omega
          have hpe : P = PE := hpe
          have hq1 : P.2.2.1 ≤ PF.2.2.1 := by rw [hpe]; exact hcE
          have hq2 := Nat.mul_le_mul_left D hq1
          refine lv_iload hx hb dX4_press_28 (lv_at hl 0 rfl) ?_
          refine lv_aload_n hx hb dX4_press_30 rfl (lv_at hl 3 rfl) ?_
          refine gf hx hb hts hown hE lkX4_26 hO rfl dX4_press_31 ?_
          refine pV hx hb hml hts hown hE kwX4_85 (c_size E bk ts.length wa G hL) hOb rfl (Nat.le_of_ble_eq_true rfl) rfl hl.1 rfl (Nat.le_of_ble_eq_true rfl) (by omega) (by omega) dX4_press_34 ?_
          refine lv_icmp_ge (tgt := 76) hx hb dX4_press_37 (by decide) (fun c8 => ?_) (fun c8 => ?_)
          rotate_left
          · exact absurd (nI_le (by omega) (by omega)) c8
          refine lv_iinc (v := nI (i + 1)) (lv' := [(3, .int (nI (i + 1))), (4, .int (nI j)), (2, .int P.2.1), (0, .ref x), (1, .int (nI nd))]) hx hb dX4_press_76 hl (k := 1) rfl (nI_1 i) (by decide) rfl (fun ls hl => ?_)
          refine lv_goto (tgt := 12) hx hb dX4_press_79 (by decide) ?_
          exact ih (i + 1) P G o locs ls (by omega) (by rw [hpe]; exact hpf2) hJ hE hS (lv_sub hl [0, 2, 3, 4] rfl)
        | succ u ih2 =>
          intro j P G o locs ls hij hj hpe hJ hE hS hl
          obtain ⟨hXg, hPv, ho1, ho2, hFg⟩ := id hJ
          have hln := hPv.1
          have hO := hXg.1
          have hL0 := hXg.2.2.2.1
          rw [hln] at hL0
          have hL := hL0.LR (by omega)
          obtain ⟨fs0, hOb, hcl⟩ := hL.ob
          have hjl : j < ts.length := by omega
          obtain ⟨tr, ht⟩ := getq (l := P.1) (i := i) (by omega)
          obtain ⟨ur, hu⟩ := getq (l := P.1) (i := j) (by omega)
          obtain ⟨db, dh, bd, hW0, -⟩ := hXg.2.2.2.2.1 i tr ht
          obtain ⟨dc, di, be, hU0, -⟩ := hXg.2.2.2.2.1 j ur hu
          have hpe2 : pin h0 h1 (nI nd) i u (j + 1) (pst h0 h1 (nI nd) i j P) = PE := hpe
          have hcS : (pst h0 h1 (nI nd) i j P).2.2.1 ≤ PE.2.2.1 := by rw [← hpe2]; exact pin_mono h0 h1 (nI nd) i u (j + 1) _
          have hcP := pst_mono h0 h1 (nI nd) i j P
          have hq1 : P.2.2.1 ≤ PF.2.2.1 := by omega
          have hq2 := Nat.mul_le_mul_left D hq1
          have hKt : ∀ tr ∈ P.1, tr.2.1.length ≤ KK := fun z hz => by have := hPv.2.2 z hz; omega
          refine lv_iload hx hb dX4_press_28 (lv_at hl 0 rfl) ?_
          refine lv_aload_n hx hb dX4_press_30 rfl (lv_at hl 3 rfl) ?_
          refine gf hx hb hts hown hE lkX4_26 hO rfl dX4_press_31 ?_
          refine pV hx hb hml hts hown hE kwX4_85 (c_size E bk ts.length wa G hL) hOb rfl (Nat.le_of_ble_eq_true rfl) rfl hl.1 rfl (Nat.le_of_ble_eq_true rfl) (by omega) (by omega) dX4_press_34 ?_
          refine lv_icmp_ge (tgt := 76) hx hb dX4_press_37 (by decide) (fun c8 => ?_) (fun c8 => ?_)
          · exact absurd c8 (nI_ge hjl (by omega))
          refine lv_iload_n hx hb dX4_press_40 rfl (lv_at hl 2 rfl) ?_
          refine lv_aload_n hx hb dX4_press_41 rfl (lv_at hl 3 rfl) ?_
          refine gf hx hb hts hown hE lkX4_26 hO rfl dX4_press_42 ?_
          refine lv_iload_n hx hb dX4_press_45 rfl (lv_at hl 1 rfl) ?_
          refine pV hx hb hml hts hown hE kwX4_134 (c_get E bk ts.length i wa G hL hlt) hOb rfl (Nat.le_of_ble_eq_true rfl) rfl hl.1 rfl (Nat.le_of_ble_eq_true rfl) (by omega) (by omega) dX4_press_46 ?_
          refine cst hx hb hts hown hE qw2_74 hW0 rfl dX4_press_49 ?_
          refine lv_aload_n hx hb dX4_press_52 rfl (lv_at hl 3 rfl) ?_
          refine gf hx hb hts hown hE lkX4_26 hO rfl dX4_press_53 ?_
          refine lv_iload hx hb dX4_press_56 (lv_at hl 0 rfl) ?_
          refine pV hx hb hml hts hown hE kwX4_134 (c_get E bk ts.length j wa G hL hjl) hOb rfl (Nat.le_of_ble_eq_true rfl) rfl hl.1 rfl (Nat.le_of_ble_eq_true rfl) (by omega) (by omega) dX4_press_58 ?_
          refine cst hx hb hts hown hE qw2_74 hU0 rfl dX4_press_61 ?_
          refine lv_iload_n hx hb dX4_press_64 rfl (lv_at hl 4 rfl) ?_
          have hst := pst_at (h0 := h0) (h1 := h1) (day := nI nd) ht hu
          have hmulE : D * PE.2.2.1 ≤ D * PF.2.2.1 := Nat.mul_le_mul_left D hcE
          have hmulS := Nat.mul_le_mul_left D hcS
          cases cp : prD h0 h1 (nI nd) tr ur with
          | true =>
            rw [cp] at hst
            have hcn : (pst h0 h1 (nI nd) i j P).2.2.1 = P.2.2.1 + 1 := by rw [hst]; rfl
            have hsn : (pst h0 h1 (nI nd) i j P).2.1 = P.2.1 + mnR tr ur := by rw [hst]; rfl
            have hms : D * (P.2.2.1 + 1) = D * P.2.2.1 + D := Nat.mul_succ _ _
            rw [hcn] at hmulS hcS
            rw [hms] at hmulS
            refine gS hx hb hml hts hown hB hE hS kwX4_138 (c_ppair E o x q fd bk wa h0 h1 fx P.1 i j tr ur (nI nd) KK 4 D G hXg hPv.2.1 ht hu (by omega) hKt hKK5 (by intro _; constructor <;> omega)) (Nat.le_of_ble_eq_true rfl) rfl hl.1 rfl (Nat.le_of_ble_eq_true rfl) (by omega) (by omega) dX4_press_65 (fun H2 L2 hG hz2 hE hS => ?_)
            obtain ⟨o2, e1, e2, hXn, hFn⟩ := hG
            have hJ2 := hJ.st hnd ht hu e1 e2 hXn hFn
            rw [show (if prD h0 h1 (nI nd) tr ur = true then mnR tr ur else 0) = mnR tr ur by rw [cp]; rfl]
            refine lv_iadd hx hb dX4_press_68 ?_
            rw [← hsn]
            refine lv_istore_n (lv' := [(2, .int ((pst h0 h1 (nI nd) i j P).2.1)), (4, .int (nI j)), (3, .int (nI i)), (0, .ref x), (1, .int (nI nd))]) hx hb dX4_press_69 rfl hl (by decide) rfl (fun ls hl => ?_)
            refine lv_iinc (v := nI (j + 1)) (lv' := [(4, .int (nI (j + 1))), (2, .int ((pst h0 h1 (nI nd) i j P).2.1)), (3, .int (nI i)), (0, .ref x), (1, .int (nI nd))]) hx hb dX4_press_70 hl (k := 1) rfl (nI_1 j) (by decide) rfl (fun ls hl => ?_)
            refine lv_goto (tgt := 28) hx hb dX4_press_73 (by decide) ?_
            rw [show 1 + 4 * P.2.2.1 + 4 = 1 + 4 * (pst h0 h1 (nI nd) i j P).2.2.1 by rw [hcn]; omega, show 6 + D * P.2.2.1 + D = 6 + D * (pst h0 h1 (nI nd) i j P).2.2.1 by rw [hcn, hms]; omega]
            exact ih2 (j + 1) (pst h0 h1 (nI nd) i j P) H2 o2 L2 ls (by omega) (by omega) hpe2 hJ2 hE hS (lv_sub hl [0, 2, 1, 3, 4] rfl)
          | false =>
            rw [cp] at hst
            have hcn : (pst h0 h1 (nI nd) i j P).2.2.1 = P.2.2.1 := by rw [hst]; rfl
            have hsn : (pst h0 h1 (nI nd) i j P).2.1 = P.2.1 + 0 := by rw [hst]; exact (Int32.add_zero _).symm
            rw [hcn] at hmulS hcS
            refine gS hx hb hml hts hown hB hE hS kwX4_138 (c_ppair E o x q fd bk wa h0 h1 fx P.1 i j tr ur (nI nd) KK 0 0 G hXg hPv.2.1 ht hu (by omega) hKt hKK5 (by rw [cp]; intro h; cases h)) (Nat.le_of_ble_eq_true rfl) rfl hl.1 rfl (Nat.le_of_ble_eq_true rfl) (by omega) (by omega) dX4_press_65 (fun H2 L2 hG hz2 hE hS => ?_)
            obtain ⟨o2, e1, e2, hXn, hFn⟩ := hG
            have hJ2 := hJ.st hnd ht hu e1 e2 hXn hFn
            rw [show (if prD h0 h1 (nI nd) tr ur = true then mnR tr ur else 0) = 0 by rw [cp]; rfl]
            refine lv_iadd hx hb dX4_press_68 ?_
            rw [← hsn]
            refine lv_istore_n (lv' := [(2, .int ((pst h0 h1 (nI nd) i j P).2.1)), (4, .int (nI j)), (3, .int (nI i)), (0, .ref x), (1, .int (nI nd))]) hx hb dX4_press_69 rfl hl (by decide) rfl (fun ls hl => ?_)
            refine lv_iinc (v := nI (j + 1)) (lv' := [(4, .int (nI (j + 1))), (2, .int ((pst h0 h1 (nI nd) i j P).2.1)), (3, .int (nI i)), (0, .ref x), (1, .int (nI nd))]) hx hb dX4_press_70 hl (k := 1) rfl (nI_1 j) (by decide) rfl (fun ls hl => ?_)
            refine lv_goto (tgt := 28) hx hb dX4_press_73 (by decide) ?_
            rw [show 1 + 4 * P.2.2.1 + 0 = 1 + 4 * (pst h0 h1 (nI nd) i j P).2.2.1 by rw [hcn]; rfl, show 6 + D * P.2.2.1 + 0 = 6 + D * (pst h0 h1 (nI nd) i j P).2.2.1 by rw [hcn]; rfl]
            exact ih2 (j + 1) (pst h0 h1 (nI nd) i j P) H2 o2 L2 ls (by omega) (by omega) hpe2 hJ2 hE hS (lv_sub hl [0, 2, 1, 3, 4] rfl)
      exact loop2 (ts.length - (i + 1)) (i + 1) P G o locs ls (by omega) (by omega) hPE hJ hE hS (lv_sub hl [0, 1, 2, 3, 4] rfl)
  exact loop ts.length 0 (ts, 0, 0, []) H (owx ow H (10, 0)) L1 ls (by omega) hPF.symm hP0 hE hS (lv_sub hl [0, 1, 2, 3] rfl)
end
section
theorem set_at {α : Type} {l : List α} {i t : Nat} {x y : α} (h : (l.set i x)[t]? = some y) : (t = i ∧ y = x ∧ i < l.length) ∨ (t ≠ i ∧ l[t]? = some y) := by
  by_cases c : t = i
  · subst c
    have hl : t < l.length := by
      have := (List.getElem?_eq_some_iff.mp h).1
      rwa [List.length_set] at this
    rw [List.getElem?_set_self hl] at h
    cases h
    exact Or.inl ⟨rfl, rfl, hl⟩
  · rw [List.getElem?_set_ne (fun e => c e.symm)] at h
    exact Or.inr ⟨c, h⟩
theorem lt_of_get {α : Type} {l : List α} {i : Nat} {x : α} (h : l[i]? = some x) : i < l.length := (List.getElem?_eq_some_iff.mp h).1
theorem dHas_app {es : Dy} {d v x : Int32} : dHas (es ++ [(d, v)]) x = (dHas es x || decide (x = d)) := by
  apply Bool.eq_iff_iff.mpr
  rw [dHas_iff, Bool.or_eq_true, dHas_iff, decide_eq_true_eq, List.map_append, List.mem_append]
  simp
/-- the fixings -/
theorem ixL_none {d : Int32} {es : Dy} (h : ixL d 0 es = none) : ∀ x ∈ es, ¬ x.1 = d := fun x hx e => by
  have := ixL_of_mem es 0 (List.mem_map.mpr ⟨x, hx, e⟩)
  rw [h] at this
  cases this
theorem map_set {es : Dy} {j : Nat} {x y : Int32 × Int32} (h : es[j]? = some x) (e : y.1 = x.1) : (es.set j y).map (·.1) = es.map (·.1) := by
  rw [List.map_set]
  apply List.ext_getElem?
  intro i
  by_cases c : i = j
  · subst c
    have hl := lt_of_get h
    rw [List.getElem?_set_self (by rw [List.length_map]; exact hl), List.getElem?_map, h]
    show some y.1 = some x.1
    rw [e]
  · rw [List.getElem?_set_ne (fun q => c q.symm)]
theorem dPut_keys {es : Dy} {d v : Int32} : (dPut es d v).map (·.1) = if dHas es d then es.map (·.1) else es.map (·.1) ++ [d] := by
  unfold dPut dHas
  cases c : ixL d 0 es with
  | none => simp
  | some j =>
    obtain ⟨-, x, hx, hd⟩ := ixL_at es 0 j c
    rw [Nat.sub_zero] at hx
    show (es.set j (d, v)).map (·.1) = _
    rw [map_set hx hd.symm]
    rfl
theorem dPut_has {es : Dy} {d v x : Int32} : dHas (dPut es d v) x = (dHas es x || decide (x = d)) := by
  apply Bool.eq_iff_iff.mpr
  rw [dHas_iff (es := dPut es d v), dPut_keys, Bool.or_eq_true, dHas_iff (es := es) (d := x), decide_eq_true_eq]
  cases c : dHas es d with
  | true =>
    rw [if_pos rfl]
    exact ⟨Or.inl, fun q => q.elim id (fun e => by rw [e]; exact dHas_iff.mp c)⟩
  | false => simp
theorem dPut_mem {es : Dy} {d v : Int32} (hn : (es.map (·.1)).Nodup) {y : Int32 × Int32} (hy : y ∈ dPut es d v) : y = (d, v) ∨ (y ∈ es ∧ ¬ y.1 = d) := by
  unfold dPut at hy
  cases c : ixL d 0 es with
  | none =>
    rw [c] at hy
    rcases List.mem_append.mp hy with q | q
    · exact Or.inr ⟨q, ixL_none c y q⟩
    · exact Or.inl (List.mem_singleton.mp q)
  | some j =>
    rw [c] at hy
    obtain ⟨-, x, hx, hd⟩ := ixL_at es 0 j c
    rw [Nat.sub_zero] at hx
    obtain ⟨i, hi⟩ := List.getElem?_of_mem hy
    rcases set_at hi with ⟨c1, e, -⟩ | ⟨c1, hi⟩
    · exact Or.inl e
    · refine Or.inr ⟨List.mem_of_getElem? hi, fun e => c1 ?_⟩
      have l1 := lt_of_get hi
      have l2 := lt_of_get hx
      refine (List.getElem_inj (h₀ := by rw [List.length_map]; exact l1) (h₁ := by rw [List.length_map]; exact l2) hn).mp ?_
      rw [List.getElem_map, List.getElem_map]
      rw [(List.getElem?_eq_some_iff.mp hi).2, (List.getElem?_eq_some_iff.mp hx).2, e, hd]
theorem SV.fix {h0 h1 fx : Dy} {ts : List TR} (hV : SV h0 h1 fx ts) {d : Nat} {r : Int32} (hd : d ≤ 3000) (hl : (dPut fx (nI d) r).length ≤ 60) : SV h0 h1 (dPut fx (nI d) r) ts := by
  obtain ⟨v1, v2, v3, v4, v5, v6, v7, v8, v9⟩ := hV
  refine ⟨v1, v2, v3, v4, fun y hy => ?_, hl, ?_, v8, v9⟩
  · rcases dPut_mem v7 hy with q | q
    · rw [q]; exact ⟨d, hd, rfl⟩
    · exact v5 y q.1
  · rw [dPut_keys]
    cases c : dHas fx (nI d) with
    | true => exact v7
    | false =>
      rw [if_neg (by decide)]
      refine List.nodup_append.mpr ⟨v7, by simp, fun a ha b hb e => ?_⟩
      rw [List.mem_singleton.mp hb] at e
      subst e
      rw [dHas_iff.mpr ha] at c
      cases c
theorem SV.hol0 {h0 h1 fx : Dy} {ts : List TR} (hV : SV h0 h1 fx ts) {d : Nat} {v : Int32} (hd : d ≤ 3000) (hl : h0.length < 20) : SV (h0 ++ [(nI d, v)]) h1 fx ts := by
  obtain ⟨v1, v2, v3, v⟩ := hV
  refine ⟨by rw [List.length_append]; show h0.length + 1 ≤ 20; omega, v2, fun y hy => ?_, v⟩
  rcases List.mem_append.mp hy with q | q
  · exact v3 y q
  · rw [List.mem_singleton.mp q]; exact ⟨d, hd, rfl⟩
theorem SV.hol1 {h0 h1 fx : Dy} {ts : List TR} (hV : SV h0 h1 fx ts) {d : Nat} {v : Int32} (hd : d ≤ 3000) (hl : h1.length < 20) : SV h0 (h1 ++ [(nI d, v)]) fx ts := by
  obtain ⟨v1, v2, v3, v4, v⟩ := hV
  refine ⟨v1, by rw [List.length_append]; show h1.length + 1 ≤ 20; omega, v3, fun y hy => ?_, v⟩
  rcases List.mem_append.mp hy with q | q
  · exact v4 y q
  · rw [List.mem_singleton.mp q]; exact ⟨d, hd, rfl⟩
theorem SV.trd {h0 h1 fx : Dy} {ts : List TR} (hV : SV h0 h1 fx ts) {tr : TR} (h : TV tr) (hl : ts.length < 10) : SV h0 h1 fx (ts ++ [tr]) := by
  obtain ⟨v1, v2, v3, v4, v5, v6, v7, v8, v9⟩ := hV
  refine ⟨v1, v2, v3, v4, v5, v6, v7, by rw [List.length_append]; show ts.length + 1 ≤ 10; omega, fun y hy => ?_⟩
  rcases List.mem_append.mp hy with q | q
  · exact v9 y q
  · rw [List.mem_singleton.mp q]; exact h
theorem TV.hnd {tr : TR} (h : TV tr) {d pa : Int32} (hl : tr.2.2.length < 10) : TV (tr.1, tr.2.1, tr.2.2 ++ [(d, pa)]) := by
  obtain ⟨pa, lo, f, le, n, v1, v2, v3, v4, v5, v6, v7, v8, t0, t1, t2, t4, t5, t6, t8, t9, tb, th⟩ := h
  exact ⟨pa, lo, f, le, n, v1, v2, v3, v4, v5, v6, v7, v8, t0, t1, t2, t4, t5, t6, t8, t9, tb, by show (tr.2.2 ++ _).length ≤ 10; rw [List.length_append]; show tr.2.2.length + 1 ≤ 10; omega⟩
theorem TV.new {pa lo py fi fs le pe : Int32} (g0 : inB pa 0 3 = true) (g1 : inB lo 1 1000 = true) (hp : py = 0 ∨ py = 1) (g3 : inB fs 0 1000 = true) (g4 : inB le 5 180 = true) (g5 : inB pe 1 10 = true) : TV (mkT pa lo py fi fs le pe, [], []) := by
  obtain ⟨a0, -, b0, e0⟩ := inB_nI2 (a := 0) (b := 3) g0
  obtain ⟨a1, c1, b1, e1⟩ := inB_nI2 (a := 1) (b := 1000) g1
  obtain ⟨a3, -, b3, e3⟩ := inB_nI2 (a := 0) (b := 1000) g3
  obtain ⟨a4, c4, b4, e4⟩ := inB_nI2 (a := 5) (b := 180) g4
  obtain ⟨a5, c5, b5, e5⟩ := inB_nI2 (a := 1) (b := 10) g5
  exact ⟨a0, a1, a3, a4, a5, b0, c1, b1, b3, c4, b4, c5, b5, e0, e1, hp, e3, e4, e5, Or.inl rfl, Or.inl rfl, fun y hy => absurd hy List.not_mem_nil, Nat.zero_le _⟩
theorem tv_brT2 {tr : TR} (h : TV tr) {d : Int32} (hd : inB d 0 3000 = true) (v : Int32) : TV (brT tr d v) := by
  obtain ⟨j, hj, e⟩ := inB_nI (n := 3000) hd
  rw [e]
  exact h.brT hj v
theorem TV.bf {tr : TR} {h0 h1 : Dy} (h : TV tr) : ∃ f le : Nat, f ≤ 1000 ∧ le ≤ 180 ∧ np tr ≤ 10 ∧ ∀ k, k ≤ np tr → bfC h0 h1 tr.1 k = nI (rol h0 h1 (f + k * le)) := by
  obtain ⟨n6, n1, n10⟩ := h.n
  obtain ⟨f, le, n, t4, t5, t6, vf, vl, vn⟩ := h.t
  exact ⟨f, le, vf, vl, n10, fun k hk => bfC_eq t4 t5 n6 (by omega) (by omega) (by omega) hk⟩
end
section
section LAWR
variable {p : Program} {e : Env} {R : Room} {s : State} {m : MethodId} {args : Array Value} {below : List Frame} {meth : Method} {c : Code} {H H0 : Heap} {locs : List Loc} {cells slots : Nat} {Q : State → Prop}
variable {cc : ByteArray} {pc nL : Nat} {ls : Array Slot} {rest st0 : List Value} {E : ET} {own : String} {hh : List (Nat × Nat × Nat × Nat)}
variable {idx k' mc' ms' n mL a ci N : Nat} {y : MethodName} {b : ByteArray} {ret : Option FieldType} {As : List Value} {v : Value} {fs : List Value} {T : u_T}
end LAWR
/-! the law's wrappers: static methods that catch -/
section WR
variable {p : Program} {e : Env} {R : Room} {s : State} {m : MethodId} {args : Array Value} {below : List Frame} {meth : Method} {c : Code} {H H0 : Heap} {locs : List Loc} {cells slots : Nat} {Q : State → Prop}
variable {cc : ByteArray} {pc nL : Nat} {ls : Array Slot} {rest st0 : List Value} {E : ET} {own : String} {hh : List (Nat × Nat × Nat × Nat)}
variable {idx k k' mc ms mc' ms' n mL a ci N : Nat} {y : MethodName} {b : ByteArray} {ret : Option FieldType} {As : List Value} {v : Value} {fs : List Value} {T : u_T}
end WR
theorem XR.kept {E : ET} {ow ow' : Nat → Nat × Nat} {x : Nat} {h0 h1 fx : Dy} {ts : List TR} {H H' : Heap} (h : XR E ow x h0 h1 fx ts H) (hF : ∀ q, q < eB E → H'[q]? = H[q]?) (hB : eF E < eB E) (hq : ∀ q, q < H.size → (ow q).1 ≠ 4 → H'[q]? = H[q]?) (hw : ∀ q, q < H.size → ow' q = ow q) : XR E ow' x h0 h1 fx ts H' := by
  obtain ⟨q, fd, bk, wa, hO, hC, hD, hL, hT, hx, hg⟩ := h
  exact ⟨q, fd, bk, wa, pk1 hO (hq x (plt hO) (by rw [hx]; decide)), hC.kept hF hB (fun z h9 h8 => hq z h9 (by omega)) hw, hD.kept hF hB (fun z h9 h8 => hq z h9 (by omega)) hw, hL.kept hF hB (fun z h9 h8 => hq z h9 (by rcases h8 with e | e <;> (rw [e]; decide))) hw, fun t tr ht => (hT t tr ht).kept hF hB (fun z h9 h8 => hq z h9 (by omega)) hw, by rw [hw x (plt hO)]; exact hx, hg⟩
theorem XOut.rf {E : ET} {ow : Nat → Nat × Nat} {x : Nat} {h0 h1 fx : Dy} {ts : List TR} {H : Heap} (hX : XR E ow x h0 h1 fx ts H) : XOut E ow x h0 h1 fx ts H H :=
  ⟨owx ow H (6, 0), fun q h => owx_old h, fun q h => by rw [owx_new h]; decide, hX.lab (Nat.le_refl _) (Nat.le_refl _), FR.rf⟩
end
section
/-! the trades with nothing left: a pressing that breaks a pair leaves one more of them -/
theorem smL_app {day : Int32} (d v : Int32) : ∀ (es : Dy) (s : Int32), smL day s (es ++ [(d, v)]) = if d ≤ day then smL day s es + v else smL day s es
  | [], s => by simp only [List.nil_append, smL]
  | x :: xs, s => by
    show smL day s (x :: (xs ++ [(d, v)])) = _
    by_cases c : x.1 ≤ day
    · simp only [smL]; rw [if_pos c, if_pos c]; exact smL_app d v xs _
    · simp only [smL]; rw [if_neg c, if_neg c]; exact smL_app d v xs _
theorem rst_br {tr : TR} {d v : Int32} (hd : d ≤ 3000) : rstS (brT tr d v).1 (brT tr d v).2.1 = rstS tr.1 tr.2.1 - v := by
  show tr.1 1 - smL 3000 0 (tr.2.1 ++ [(d, v)]) = tr.1 1 - smL 3000 0 tr.2.1 - v
  rw [smL_app, if_pos hd, Int32.sub_sub]
def zc : List TR → Nat
  | [] => 0
  | t :: ts => (if rstS t.1 t.2.1 = 0 then 1 else 0) + zc ts
theorem zc_le : ∀ (ts : List TR), zc ts ≤ ts.length
  | [] => Nat.le_refl _
  | t :: ts => by
    have := zc_le ts
    show (if rstS t.1 t.2.1 = 0 then 1 else 0) + zc ts ≤ ts.length + 1
    split <;> omega
theorem zc_app (u : TR) : ∀ (ts : List TR), zc ts ≤ zc (ts ++ [u])
  | [] => Nat.zero_le _
  | t :: ts => by
    have := zc_app u ts
    show (if rstS t.1 t.2.1 = 0 then 1 else 0) + zc ts ≤ (if rstS t.1 t.2.1 = 0 then 1 else 0) + zc (ts ++ [u])
    omega
theorem zc_set {u tr : TR} (h : rstS tr.1 tr.2.1 = 0 → rstS u.1 u.2.1 = 0) : ∀ (ts : List TR) (i : Nat), ts[i]? = some tr → zc ts ≤ zc (ts.set i u)
  | [], i, ht => by cases i <;> cases ht
  | t :: ts, 0, ht => by
    cases ht
    show (if rstS tr.1 tr.2.1 = 0 then 1 else 0) + zc ts ≤ (if rstS u.1 u.2.1 = 0 then 1 else 0) + zc ts
    by_cases c : rstS tr.1 tr.2.1 = 0
    · rw [if_pos c, if_pos (h c)]; exact Nat.le_refl _
    · rw [if_neg c]; omega
  | t :: ts, i + 1, ht => by
    have := zc_set h ts i ht
    show (if rstS t.1 t.2.1 = 0 then 1 else 0) + zc ts ≤ (if rstS t.1 t.2.1 = 0 then 1 else 0) + zc (ts.set i u)
    omega
theorem zc_set1 {u tr : TR} (h : ¬ rstS tr.1 tr.2.1 = 0) (h1 : rstS u.1 u.2.1 = 0) : ∀ (ts : List TR) (i : Nat), ts[i]? = some tr → zc ts + 1 ≤ zc (ts.set i u)
  | [], i, ht => by cases i <;> cases ht
  | t :: ts, 0, ht => by
    cases ht
    show (if rstS tr.1 tr.2.1 = 0 then 1 else 0) + zc ts + 1 ≤ (if rstS u.1 u.2.1 = 0 then 1 else 0) + zc ts
    rw [if_neg h, if_pos h1]; omega
  | t :: ts, i + 1, ht => by
    have := zc_set1 h h1 ts i ht
    show (if rstS t.1 t.2.1 = 0 then 1 else 0) + zc ts + 1 ≤ (if rstS t.1 t.2.1 = 0 then 1 else 0) + zc (ts.set i u)
    omega
theorem mnR_0 {tr ur : TR} (h : 0 < mnR tr ur) : 0 < rstS tr.1 tr.2.1 ∧ 0 < rstS ur.1 ur.2.1 ∧ (mnR tr ur = rstS tr.1 tr.2.1 ∨ mnR tr ur = rstS ur.1 ur.2.1) := by
  unfold mnR at h ⊢
  by_cases c : rstS tr.1 tr.2.1 < rstS ur.1 ur.2.1
  · rw [if_pos c] at h ⊢
    exact ⟨h, Int32.lt_trans h c, Or.inl rfl⟩
  · rw [if_neg c] at h ⊢
    exact ⟨Int32.lt_of_lt_of_le h (Int32.not_lt.mp c), h, Or.inr rfl⟩
theorem gt0_ne {v : Int32} (h : 0 < v) : ¬ v = 0 := fun e => by rw [e] at h; exact absurd h (by decide)
/-- one pair -/
theorem zc_st {h0 h1 : Dy} {day : Int32} {i j : Nat} {P : PS} (hd : day ≤ 3000) (hij : i ≠ j) : zc P.1 + (pst h0 h1 day i j P).2.2.1 ≤ zc (pst h0 h1 day i j P).1 + P.2.2.1 := by
  unfold pst
  split
  · rename_i tr ur hi hj
    split
    · rename_i hp
      have h0m : 0 < mnR tr ur := of_decide_eq_true (Bool.and_eq_true_iff.mp hp).2
      obtain ⟨m1, m2, m3⟩ := mnR_0 h0m
      have hj2 : (P.1.set i (brT tr day (mnR tr ur)))[j]? = some ur := by rw [List.getElem?_set_ne hij]; exact hj
      have hn1 := gt0_ne m1
      have hn2 := gt0_ne m2
      show zc P.1 + (P.2.2.1 + 1) ≤ zc ((P.1.set i (brT tr day (mnR tr ur))).set j (brT ur day (mnR tr ur))) + P.2.2.1
      rcases m3 with e | e
      · have a1 := zc_set1 (u := brT tr day (mnR tr ur)) hn1 (by rw [rst_br hd, e, Int32.sub_self]) P.1 i hi
        have a2 := zc_set (u := brT ur day (mnR tr ur)) (fun q => absurd q hn2) (P.1.set i (brT tr day (mnR tr ur))) j hj2
        omega
      · have a1 := zc_set (u := brT tr day (mnR tr ur)) (fun q => absurd q hn1) P.1 i hi
        have a2 := zc_set1 (u := brT ur day (mnR tr ur)) hn2 (by rw [rst_br hd, e, Int32.sub_self]) (P.1.set i (brT tr day (mnR tr ur))) j hj2
        omega
    · exact Nat.le_refl _
  · exact Nat.le_refl _
theorem zc_in {h0 h1 : Dy} {day : Int32} {i : Nat} (hd : day ≤ 3000) : ∀ r j (P : PS), i < j → zc P.1 + (pin h0 h1 day i r j P).2.2.1 ≤ zc (pin h0 h1 day i r j P).1 + P.2.2.1
  | 0, _, _, _ => Nat.le_refl _
  | r + 1, j, P, h => by
    have a1 := zc_st (h0 := h0) (h1 := h1) (i := i) (j := j) (P := P) hd (by omega)
    have a2 := zc_in (h0 := h0) (h1 := h1) (i := i) hd r (j + 1) (pst h0 h1 day i j P) (by omega)
    show zc P.1 + (pin h0 h1 day i r (j + 1) (pst h0 h1 day i j P)).2.2.1 ≤ zc (pin h0 h1 day i r (j + 1) (pst h0 h1 day i j P)).1 + P.2.2.1
    omega
theorem zc_ou {h0 h1 : Dy} {day : Int32} {n : Nat} (hd : day ≤ 3000) : ∀ r i (P : PS), zc P.1 + (pou h0 h1 day n r i P).2.2.1 ≤ zc (pou h0 h1 day n r i P).1 + P.2.2.1
  | 0, _, _ => Nat.le_refl _
  | r + 1, i, P => by
    have a1 := zc_in (h0 := h0) (h1 := h1) (i := i) hd (n - (i + 1)) (i + 1) P (by omega)
    have a2 := zc_ou (h0 := h0) (h1 := h1) (n := n) hd r (i + 1) (pin h0 h1 day i (n - (i + 1)) (i + 1) P)
    show zc P.1 + (pou h0 h1 day n r (i + 1) (pin h0 h1 day i (n - (i + 1)) (i + 1) P)).2.2.1 ≤ zc (pou h0 h1 day n r (i + 1) (pin h0 h1 day i (n - (i + 1)) (i + 1) P)).1 + P.2.2.1
    omega
theorem zc_prs {h0 h1 : Dy} {day : Int32} {ts : List TR} (hd : day ≤ 3000) : zc ts + (prs h0 h1 day ts).2.2.1 ≤ zc (prs h0 h1 day ts).1 := zc_ou hd ts.length 0 (ts, 0, 0, [])
/-- its breaks: two for each pair -/
theorem pst_bk (h0 h1 : Dy) (day : Int32) (i j : Nat) (P : PS) : (pst h0 h1 day i j P).2.2.2.length + 2 * P.2.2.1 = P.2.2.2.length + 2 * (pst h0 h1 day i j P).2.2.1 := by
  unfold pst
  split
  · split
    · rw [List.length_append]
      show P.2.2.2.length + 2 + 2 * P.2.2.1 = P.2.2.2.length + 2 * (P.2.2.1 + 1)
      omega
    · rfl
  · rfl
theorem pin_bk (h0 h1 : Dy) (day : Int32) (i : Nat) : ∀ r j P, (pin h0 h1 day i r j P).2.2.2.length + 2 * P.2.2.1 = P.2.2.2.length + 2 * (pin h0 h1 day i r j P).2.2.1
  | 0, _, _ => rfl
  | r + 1, j, P => by
    have a1 := pst_bk h0 h1 day i j P
    have a2 := pin_bk h0 h1 day i r (j + 1) (pst h0 h1 day i j P)
    show (pin h0 h1 day i r (j + 1) (pst h0 h1 day i j P)).2.2.2.length + 2 * P.2.2.1 = P.2.2.2.length + 2 * (pin h0 h1 day i r (j + 1) (pst h0 h1 day i j P)).2.2.1
    omega
theorem pou_bk (h0 h1 : Dy) (day : Int32) (n : Nat) : ∀ r i P, (pou h0 h1 day n r i P).2.2.2.length + 2 * P.2.2.1 = P.2.2.2.length + 2 * (pou h0 h1 day n r i P).2.2.1
  | 0, _, _ => rfl
  | r + 1, i, P => by
    have a1 := pin_bk h0 h1 day i (n - (i + 1)) (i + 1) P
    have a2 := pou_bk h0 h1 day n r (i + 1) (pin h0 h1 day i (n - (i + 1)) (i + 1) P)
    show (pou h0 h1 day n r (i + 1) (pin h0 h1 day i (n - (i + 1)) (i + 1) P)).2.2.2.length + 2 * P.2.2.1 = P.2.2.2.length + 2 * (pou h0 h1 day n r (i + 1) (pin h0 h1 day i (n - (i + 1)) (i + 1) P)).2.2.1
    omega
theorem prs_bk (h0 h1 : Dy) (day : Int32) (ts : List TR) : (prs h0 h1 day ts).2.2.2.length = 2 * (prs h0 h1 day ts).2.2.1 := by
  have := pou_bk h0 h1 day ts.length ts.length 0 (ts, 0, 0, [])
  simpa [prs] using this
end
section
/-! both worlds side by side at the law's loop; what a call's answer 0 says of the new state -/
theorem old9 {E : ET} {s : State} {H H1 : Heap} {locs locs1 : List Loc} (hB : eB E ≤ s.heap.size) (hS : va_S (fr E) s.heap H locs) (hS1 : va_S (fr E) s.heap H1 locs1) : ∀ q : Nat, q < eB E → H1[q]? = H[q]? := fun q h =>
  (hS1.2.1 q (Nat.lt_of_lt_of_le h hB) (Nat.not_le_of_lt h)).trans (hS.2.1 q (Nat.lt_of_lt_of_le h hB) (Nat.not_le_of_lt h)).symm
/-! what answer 0 says -/
theorem sv_hol {h0 h1 fx : Dy} {ts : List TR} {town d : Int32} (hV : SV h0 h1 fx ts) (h : cdHol h0 h1 town d = 0) : SV (if town = 0 then h0 ++ [(d, town)] else h0) (if town = 0 then h1 else h1 ++ [(d, town)]) fx ts := by
  unfold cdHol at h
  by_cases c1 : inB town 0 1 = true
  · rw [if_pos c1] at h
    by_cases hd : inB d 0 3000 = true
    · rw [if_pos hd] at h
      by_cases hn : (decide (20 ≤ (if town = 0 then h0 else h1).length) || dHas (if town = 0 then h0 else h1) d) = true
      · rw [if_pos hn] at h; exact absurd h (by decide)
      · obtain ⟨j, hj, e⟩ := inB_nI (n := 3000) hd
        have hl : (if town = 0 then h0 else h1).length < 20 := by
          rcases Nat.lt_or_ge (if town = 0 then h0 else h1).length 20 with q | q
          · exact q
          · have q : 20 ≤ (if town = 0 then h0 else h1).length := q
            exact absurd (by rw [decide_eq_true q]; rfl) hn
        rw [e]
        by_cases c : town = 0
        · rw [if_pos c] at hl
          rw [if_pos c, if_pos c]
          exact hV.hol0 hj hl
        · rw [if_neg c] at hl
          rw [if_neg c, if_neg c]
          exact hV.hol1 hj hl
    · rw [if_neg hd] at h; exact absurd h (by decide)
  · rw [if_neg c1] at h; exact absurd h (by decide)
theorem sv_fix {h0 h1 fx : Dy} {ts : List TR} {d r : Int32} (hV : SV h0 h1 fx ts) (h : cdFix fx d r = 0) : SV h0 h1 (dPut fx d r) ts := by
  unfold cdFix at h
  split at h
  · rename_i hd
    split at h
    · cases h
    · rename_i hn
      obtain ⟨j, hj, e⟩ := inB_nI (n := 3000) (Bool.and_eq_true_iff.mp hd).1
      have hl : (dPut fx d r).length ≤ 60 := by
        rw [dPut_len]
        cases c : dHas fx d with
        | true => rw [if_pos rfl]; exact hV.2.2.2.2.2.1
        | false =>
          rw [if_neg (by decide)]
          rcases Nat.lt_or_ge fx.length 60 with q | q
          · exact q
          · exact absurd (by rw [decide_eq_true q, c]; rfl) hn
      rw [e] at hl ⊢
      exact hV.fix hj hl
  · cases h
theorem sv_trd {h0 h1 fx : Dy} {ts : List TR} {pa lo py fi fs le pe : Int32} (hV : SV h0 h1 fx ts) (hpy : py = 0 ∨ py = 1) (h : cdTrd ts pa lo fi fs le pe = 0) : SV h0 h1 fx (ts ++ [(mkT pa lo py fi fs le pe, [], [])]) := by
  unfold cdTrd at h
  split at h
  · rename_i g0
    split at h
    · rename_i g
      split at h
      · cases h
      · rename_i hn
        obtain ⟨g1, g⟩ := Bool.and_eq_true_iff.mp g
        obtain ⟨g2, g⟩ := Bool.and_eq_true_iff.mp g
        obtain ⟨g3, g⟩ := Bool.and_eq_true_iff.mp g
        obtain ⟨g4, g5⟩ := Bool.and_eq_true_iff.mp g
        exact hV.trd (TV.new g0 g1 hpy g3 g4 g5) (by omega)
    · cases h
  · cases h
theorem trd_at {h0 h1 fx : Dy} {ts : List TR} {t : Int32} {i : Nat} {tr : TR} (hV : SV h0 h1 fx ts) (et : t = nI i) (ht : ts[i]? = some tr) : trd ts t = some tr := by
  have h1 := lt_of_get ht
  have h2 := hV.tn
  rw [et, trd_nI (by omega)]
  exact ht
theorem zc_hnd {ts : List TR} {hs : Dy} {i : Nat} {tr : TR} (ht : ts[i]? = some tr) : zc ts ≤ zc (ts.set i (tr.1, tr.2.1, hs)) := zc_set (u := (tr.1, tr.2.1, hs)) (tr := tr) (fun h => h) ts i ht
theorem sv_brk {h0 h1 fx : Dy} {ts : List TR} {t d lo : Int32} {i : Nat} {tr : TR} (hV : SV h0 h1 fx ts) (et : t = nI i) (ht : ts[i]? = some tr) (h : cdBrk ts t d lo = 0) : SV h0 h1 fx (ts.set i (brT tr d lo)) ∧ zc ts ≤ zc (ts.set i (brT tr d lo)) := by
  unfold cdBrk at h
  rw [trd_at hV et ht] at h
  dsimp only at h
  split at h
  · rename_i g
    obtain ⟨g1, g2⟩ := Bool.and_eq_true_iff.mp g
    split at h
    · cases h
    · rename_i hn
      refine ⟨hV.set (tv_brT2 (hV.tv ht) g1 lo), zc_set (fun e => ?_) ts i ht⟩
      rw [e] at hn
      obtain ⟨j, hj1, hj2, ej⟩ := inB_nI2 (a := 1) (b := 1000) g2
      refine absurd ?_ hn
      rw [ej]
      exact nI_lt (a := 0) (by omega) (by omega)
  · cases h
theorem sv_hnd {h0 h1 fx : Dy} {ts : List TR} {t d pa : Int32} {i : Nat} {tr : TR} (hV : SV h0 h1 fx ts) (et : t = nI i) (ht : ts[i]? = some tr) (h : cdHnd ts t d pa = 0) : SV h0 h1 fx (ts.set i (tr.1, tr.2.1, tr.2.2 ++ [(d, pa)])) := by
  unfold cdHnd at h
  rw [trd_at hV et ht] at h
  dsimp only at h
  split at h
  · split at h
    · split at h
      · cases h
      · rename_i hn
        exact hV.set ((hV.tv ht).hnd (by omega))
    · cases h
  · cases h
theorem PV.ou {h0 h1 fx : Dy} {n K d : Nat} (hd : d ≤ 3000) : ∀ r i (P : PS), PV h0 h1 fx n K P → PV h0 h1 fx n K (pou h0 h1 (nI d) n r i P)
  | 0, _, _, h => h
  | r + 1, i, _, h => PV.ou hd r (i + 1) _ (PV.in hd _ _ _ h)
theorem sv_prs {h0 h1 fx : Dy} {ts : List TR} {d : Int32} {K : Nat} (hV : SV h0 h1 fx ts) (hK : ∀ tr ∈ ts, tr.2.1.length ≤ K) (h : inB d 0 3000 = true) : SV h0 h1 fx (prs h0 h1 d ts).1 ∧ zc ts + (prs h0 h1 d ts).2.2.1 ≤ zc (prs h0 h1 d ts).1 := by
  refine ⟨?_, zc_prs (of_decide_eq_true (Bool.and_eq_true_iff.mp h).2)⟩
  obtain ⟨j, hj, e⟩ := inB_nI (n := 3000) h
  rw [e]
  exact (PV.ou (K := K) hj ts.length 0 (ts, 0, 0, []) ⟨rfl, hV, hK⟩).2.1
/-! pressing on a day that isn't one -/
theorem pst_cn (h0 h1 : Dy) (day : Int32) (i j : Nat) (P : PS) : (pst h0 h1 day i j P).2.2.1 ≤ P.2.2.1 + 1 := by
  unfold pst
  split
  · split
    · exact Nat.le_refl _
    · exact Nat.le_succ _
  · exact Nat.le_succ _
theorem pin_cn (h0 h1 : Dy) (day : Int32) (i : Nat) : ∀ r j P, (pin h0 h1 day i r j P).2.2.1 ≤ P.2.2.1 + r
  | 0, _, _ => Nat.le_refl _
  | r + 1, j, P => by
    have a1 := pst_cn h0 h1 day i j P
    have a2 := pin_cn h0 h1 day i r (j + 1) (pst h0 h1 day i j P)
    show (pin h0 h1 day i r (j + 1) (pst h0 h1 day i j P)).2.2.1 ≤ P.2.2.1 + (r + 1)
    omega
theorem pou_cn (h0 h1 : Dy) (day : Int32) (n : Nat) (hn : n ≤ 10) : ∀ r i P, (pou h0 h1 day n r i P).2.2.1 ≤ P.2.2.1 + 10 * r
  | 0, _, _ => Nat.le_refl _
  | r + 1, i, P => by
    have a1 := pin_cn h0 h1 day i (n - (i + 1)) (i + 1) P
    have a2 := pou_cn h0 h1 day n hn r (i + 1) (pin h0 h1 day i (n - (i + 1)) (i + 1) P)
    show (pou h0 h1 day n r (i + 1) (pin h0 h1 day i (n - (i + 1)) (i + 1) P)).2.2.1 ≤ P.2.2.1 + 10 * (r + 1)
    omega
theorem prs_cn (h0 h1 : Dy) (day : Int32) (ts : List TR) (hn : ts.length ≤ 10) : (prs h0 h1 day ts).2.2.1 ≤ 100 := by
  have := pou_cn h0 h1 day ts.length hn ts.length 0 (ts, 0, 0, [])
  have : (prs h0 h1 day ts).2.2.1 ≤ 0 + 10 * ts.length := this
  omega
end
section
/-! the law's own sums: all flows that are paid from one day to another, whoever holds the trade -/
def pdS (T : Nat → Int32) (bs : Dy) (bf : Nat → Int32) (fx : Dy) (d1 d2 : Int32) : Nat → Int64
  | 0 => 0
  | k + 1 => if d1 ≤ bf (k + 1) ∧ bf (k + 1) ≤ d2 then pdS T bs bf fx d1 d2 k + flwS T bs bf fx k else pdS T bs bf fx d1 d2 k
def pd1 (h0 h1 fx : Dy) (d1 d2 : Int32) (tr : TR) : Int64 := pdS tr.1 tr.2.1 (bfC h0 h1 tr.1) fx d1 d2 (np tr)
def pdL (h0 h1 fx : Dy) (d1 d2 : Int32) : List TR → Int64
  | [] => 0
  | tr :: us => pd1 h0 h1 fx d1 d2 tr + pdL h0 h1 fx d1 d2 us
/-- a party -/
def P4 (v : Int32) : Prop := v = 0 ∨ v = 1 ∨ v = 2 ∨ v = 3
theorem lvL_P {P : Int32 → Prop} {day : Int32} : ∀ (es : Dy) (lt v : Int32), P v → (∀ x ∈ es, P x.2) → P (lvL day lt v es)
  | [], _, _, hv, _ => hv
  | x :: xs, lt, v, hv, h => by
    unfold lvL
    by_cases c : x.1 ≤ day ∧ lt ≤ x.1
    · rw [if_pos c]; exact lvL_P xs _ _ (h x List.mem_cons_self) (fun y hy => h y (List.mem_cons_of_mem _ hy))
    · rw [if_neg c]; exact lvL_P xs _ _ hv (fun y hy => h y (List.mem_cons_of_mem _ hy))
/-- who holds a trade is a party -/
def HV (tr : TR) : Prop := P4 (tr.1 0) ∧ ∀ x ∈ tr.2.2, P4 x.2
theorem HV.p {tr : TR} (h : HV tr) (day : Int32) : P4 (hldS tr.1 tr.2.2 day) := lvL_P tr.2.2 _ _ h.1 h.2
theorem i64_1 (a b c d f : Int64) : a + f + b + c + d = a + b + c + d + f := by ac_rfl
theorem i64_2 (a b c d f : Int64) : a + (b + f) + c + d = a + b + c + d + f := by ac_rfl
theorem i64_3 (a b c d f : Int64) : a + b + (c + f) + d = a + b + c + d + f := by ac_rfl
theorem i64_4 (a b c d f : Int64) : a + b + c + (d + f) = a + b + c + d + f := by ac_rfl
theorem csh4 {T : Nat → Int32} {bs hs : Dy} {bf : Nat → Int32} {fx : Dy} {d1 d2 : Int32} (hh : ∀ day, P4 (hldS T hs day)) (k : Nat) : cshS T bs hs bf fx 0 d1 d2 k + cshS T bs hs bf fx 1 d1 d2 k + cshS T bs hs bf fx 2 d1 d2 k + cshS T bs hs bf fx 3 d1 d2 k = pdS T bs bf fx d1 d2 k := by
  induction k with
  | zero => show (0 : Int64) + 0 + 0 + 0 = 0; decide
  | succ k ih =>
    unfold cshS pdS
    by_cases c : d1 ≤ bf (k + 1) ∧ bf (k + 1) ≤ d2
    · have hn : ∀ v w : Int32, hldS T hs (bf (k + 1)) = v → ¬ v = w → ¬ (d1 ≤ bf (k + 1) ∧ bf (k + 1) ≤ d2 ∧ hldS T hs (bf (k + 1)) = w) := fun v w e n q => n (e.symm.trans q.2.2)
      rw [if_pos c, ← ih]
      rcases hh (bf (k + 1)) with e | e | e | e
      · rw [if_pos ⟨c.1, c.2, e⟩, if_neg (hn _ 1 e (by decide)), if_neg (hn _ 2 e (by decide)), if_neg (hn _ 3 e (by decide))]
        exact i64_1 _ _ _ _ _
      · rw [if_neg (hn _ 0 e (by decide)), if_pos ⟨c.1, c.2, e⟩, if_neg (hn _ 2 e (by decide)), if_neg (hn _ 3 e (by decide))]
        exact i64_2 _ _ _ _ _
      · rw [if_neg (hn _ 0 e (by decide)), if_neg (hn _ 1 e (by decide)), if_pos ⟨c.1, c.2, e⟩, if_neg (hn _ 3 e (by decide))]
        exact i64_3 _ _ _ _ _
      · rw [if_neg (hn _ 0 e (by decide)), if_neg (hn _ 1 e (by decide)), if_neg (hn _ 2 e (by decide)), if_pos ⟨c.1, c.2, e⟩]
        exact i64_4 _ _ _ _ _
    · have hn : ∀ w : Int32, ¬ (d1 ≤ bf (k + 1) ∧ bf (k + 1) ≤ d2 ∧ hldS T hs (bf (k + 1)) = w) := fun w q => c ⟨q.1, q.2.1⟩
      rw [if_neg c, if_neg (hn 0), if_neg (hn 1), if_neg (hn 2), if_neg (hn 3)]
      exact ih
theorem i64_5 (a b c d x y z w : Int64) : a + x + (b + y) + (c + z) + (d + w) = (a + b + c + d) + (x + y + z + w) := by ac_rfl
/-- the cash of all parties is that of all flows -/
theorem cash4 {h0 h1 fx : Dy} {d1 d2 : Int32} : ∀ us : List TR, (∀ tr ∈ us, HV tr) → sumS h0 h1 fx 0 d1 d2 0 us + sumS h0 h1 fx 1 d1 d2 0 us + sumS h0 h1 fx 2 d1 d2 0 us + sumS h0 h1 fx 3 d1 d2 0 us = pdL h0 h1 fx d1 d2 us
  | [], _ => by show (0 : Int64) + 0 + 0 + 0 = 0; decide
  | tr :: us, h => by
    rw [sumS_c0, sumS_c0, sumS_c0, sumS_c0, i64_5, cash4 us (fun y hy => h y (List.mem_cons_of_mem _ hy))]
    have e : csh1 h0 h1 fx 0 d1 d2 tr + csh1 h0 h1 fx 1 d1 d2 tr + csh1 h0 h1 fx 2 d1 d2 tr + csh1 h0 h1 fx 3 d1 d2 tr = pd1 h0 h1 fx d1 d2 tr := csh4 (h tr List.mem_cons_self).p _
    rw [e]
    rfl
/-! the next pay day of the party that holds a trade on one of its pay days is that day -/
def nbO (day v : Int32) : Prop := v = -1 ∨ day ≤ v
theorem npS_nb {T : Nat → Int32} {hs : Dy} {bf : Nat → Int32} {pa day : Int32} : ∀ r k, nbO day (npS T hs bf pa day r k)
  | 0, _ => Or.inl rfl
  | r + 1, k => by
    unfold npS
    by_cases c : day ≤ bf (k + 1) ∧ hldS T hs (bf (k + 1)) = pa
    · rw [if_pos c]; exact Or.inr c.1
    · rw [if_neg c]; exact npS_nb r (k + 1)
theorem npS_hit {T : Nat → Int32} {hs : Dy} {bf : Nat → Int32} {pa day : Int32} {k : Nat} (hm : ∀ j, j ≤ k → bf (j + 1) ≤ day) (hd : bf (k + 1) = day) (hp : hldS T hs day = pa) : ∀ r j, j ≤ k → k < j + r → npS T hs bf pa day r j = day
  | 0, j, h1, h2 => by omega
  | r + 1, j, h1, h2 => by
    unfold npS
    by_cases c : day ≤ bf (j + 1) ∧ hldS T hs (bf (j + 1)) = pa
    · rw [if_pos c]; exact Int32.le_antisymm (hm j h1) c.1
    · rw [if_neg c]
      rcases Nat.eq_or_lt_of_le h1 with q | q
      · subst q
        exact absurd ⟨by rw [hd]; exact Int32.le_refl _, by rw [hd]; exact hp⟩ c
      · exact npS_hit hm hd hp r (j + 1) q (by omega)
theorem minO_nb {day a b : Int32} (ha : nbO day a) (hb : nbO day b) : nbO day (minO a b) := by
  unfold minO
  by_cases c1 : b = -1
  · rw [if_pos c1]; exact ha
  · rw [if_neg c1]
    by_cases c2 : a = -1
    · rw [if_pos c2]; exact hb
    · rw [if_neg c2]
      by_cases c3 : b < a
      · rw [if_pos c3]; exact hb
      · rw [if_neg c3]; exact ha
theorem minO_l {day b : Int32} (hd : ¬ day = -1) (hb : nbO day b) : minO day b = day := by
  unfold minO
  by_cases c1 : b = -1
  · rw [if_pos c1]
  · rw [if_neg c1, if_neg hd, if_neg (Int32.not_lt.mpr (hb.resolve_left c1))]
theorem minO_r {day a : Int32} (hd : ¬ day = -1) (ha : nbO day a) : minO a day = day := by
  unfold minO
  rw [if_neg hd]
  by_cases c2 : a = -1
  · rw [if_pos c2]
  · rw [if_neg c2]
    by_cases c3 : day < a
    · rw [if_pos c3]
    · rw [if_neg c3]; exact Int32.le_antisymm (Int32.not_lt.mp c3) (ha.resolve_left c2)
theorem nxT_stay {h0 h1 : Dy} {pa day : Int32} (hd : ¬ day = -1) : ∀ us : List TR, nxT h0 h1 pa day day us = day
  | [] => rfl
  | tr :: us => by
    unfold nxT
    rw [show minO day (npT h0 h1 pa day tr) = day from minO_l hd (npS_nb _ _)]
    exact nxT_stay hd us
theorem nxT_hit {h0 h1 : Dy} {pa day : Int32} (hd : ¬ day = -1) {tr : TR} (e : npT h0 h1 pa day tr = day) : ∀ (us : List TR) (v : Int32), nbO day v → tr ∈ us → nxT h0 h1 pa day v us = day
  | [], _, _, hm => absurd hm List.not_mem_nil
  | ur :: us, v, hv, hm => by
    unfold nxT
    by_cases c : npT h0 h1 pa day ur = day
    · rw [c, minO_r hd hv]; exact nxT_stay hd us
    · rcases List.mem_cons.mp hm with q | q
      · subst q; exact absurd e c
      · exact nxT_hit hd e us _ (minO_nb hv (npS_nb _ _)) q
/-! the days of a trade never go back -/
theorem bfC_mono {h0 h1 fx : Dy} {ts : List TR} {tr : TR} (hV : SV h0 h1 fx ts) (hT : TV tr) {j k : Nat} (hjk : j ≤ k) (hk : k ≤ np tr) : bfC h0 h1 tr.1 j ≤ bfC h0 h1 tr.1 k := by
  obtain ⟨f, le, vf, vl, n10, hb⟩ := hT.bf (h0 := h0) (h1 := h1)
  have h9 : k * le ≤ 10 * 180 := Nat.mul_le_mul (by omega) vl
  have h8 : j * le ≤ k * le := Nat.mul_le_mul_right le hjk
  rw [hb j (by omega), hb k hk]
  have e1 := rol_le h0 h1 (f + k * le)
  exact nI_le (rol_mono hV.1 hV.2.1 (by omega) (by omega)) (by omega)
theorem bfC_nat {h0 h1 : Dy} {tr : TR} (hT : TV tr) {k : Nat} (hk : k ≤ np tr) : ∃ m, m ≤ 4000 ∧ bfC h0 h1 tr.1 k = nI m := by
  obtain ⟨f, le, vf, vl, n10, hb⟩ := hT.bf (h0 := h0) (h1 := h1)
  have h9 : k * le ≤ 10 * 180 := Nat.mul_le_mul (by omega) vl
  have e1 := rol_le h0 h1 (f + k * le)
  exact ⟨_, by omega, hb k hk⟩
/-- what isCash asks of each of its flows -/
theorem next_hit {h0 h1 fx : Dy} {ts : List TR} {t k : Nat} {tr : TR} (hV : SV h0 h1 fx ts) (ht : ts[t]? = some tr) (hk : k < np tr) : nxT h0 h1 (hldS tr.1 tr.2.2 (bfC h0 h1 tr.1 (k + 1))) (bfC h0 h1 tr.1 (k + 1)) (-1) ts = bfC h0 h1 tr.1 (k + 1) := by
  have hT := hV.tv ht
  obtain ⟨m, hm, e⟩ := bfC_nat (h0 := h0) (h1 := h1) hT (k := k + 1) hk
  have hd : ¬ bfC h0 h1 tr.1 (k + 1) = -1 := fun q => by
    rw [e] at q
    exact nI_pos (n := m) (by omega) (by rw [q]; decide)
  refine nxT_hit hd (tr := tr) ?_ ts (-1) (Or.inl rfl) (List.mem_of_getElem? ht)
  exact npS_hit (k := k) (fun j hj => bfC_mono hV hT (by omega) (by omega)) rfl rfl (np tr) 0 (Nat.zero_le _) (by omega)
end
section
/-! breaks as numbers -/
theorem nI_sub {a b : Nat} (h : b ≤ a) : nI a - nI b = nI (a - b) := by
  have e : nI a = nI (a - b) + nI b := by rw [nI_add, Nat.sub_add_cancel h]
  rw [e, Int32.add_sub_cancel]
def bsN (day : Int32) : Dy → Nat
  | [] => 0
  | x :: xs => (if x.1 ≤ day then x.2.toNatClampNeg else 0) + bsN day xs
def bsA : Dy → Nat
  | [] => 0
  | x :: xs => x.2.toNatClampNeg + bsA xs
/-- the breaks are of 1 to 1000 lots, and no more than there are -/
def GB (tr : TR) : Prop := (∀ x ∈ tr.2.1, ∃ v, 1 ≤ v ∧ v ≤ 1000 ∧ x.2 = nI v) ∧ bsA tr.2.1 ≤ (tr.1 1).toNatClampNeg
/-- the rest of a trade -/
def rN (tr : TR) : Nat := (tr.1 1).toNatClampNeg - bsA tr.2.1
theorem bsN_le (day : Int32) : ∀ es : Dy, bsN day es ≤ bsA es
  | [] => Nat.le_refl _
  | x :: xs => by
    have := bsN_le day xs
    unfold bsN bsA
    split <;> omega
theorem bsN_mono {d1 d2 : Int32} (h : d1 ≤ d2) : ∀ es : Dy, bsN d1 es ≤ bsN d2 es
  | [] => Nat.le_refl _
  | x :: xs => by
    have := bsN_mono h xs
    unfold bsN
    by_cases c : x.1 ≤ d1
    · rw [if_pos c, if_pos (Int32.le_trans c h)]; omega
    · rw [if_neg c]; omega
theorem bsN_all {day : Int32} : ∀ es : Dy, (∀ x ∈ es, x.1 ≤ day) → bsN day es = bsA es
  | [], _ => rfl
  | x :: xs, h => by
    unfold bsN bsA
    rw [if_pos (h x List.mem_cons_self), bsN_all xs (fun y hy => h y (List.mem_cons_of_mem _ hy))]
theorem bsA_app (d v : Int32) : ∀ es : Dy, bsA (es ++ [(d, v)]) = bsA es + v.toNatClampNeg
  | [] => by simp [bsA]
  | x :: xs => by
    have := bsA_app d v xs
    show x.2.toNatClampNeg + bsA (xs ++ [(d, v)]) = x.2.toNatClampNeg + bsA xs + v.toNatClampNeg
    omega
theorem smL_N {day : Int32} : ∀ (es : Dy) (s : Int32), (∀ x ∈ es, ∃ v, 1 ≤ v ∧ v ≤ 1000 ∧ x.2 = nI v) → smL day s es = s + nI (bsN day es)
  | [], s, _ => by show s = s + nI 0; rw [show nI 0 = 0 from nI_0, Int32.add_zero]
  | x :: xs, s, h => by
    obtain ⟨v, v1, v2, e⟩ := h x List.mem_cons_self
    have hr := fun q => smL_N (day := day) xs q (fun y hy => h y (List.mem_cons_of_mem _ hy))
    unfold smL bsN
    by_cases c : x.1 ≤ day
    · rw [if_pos c, if_pos c, hr, e, nI_clamp (by omega), Int32.add_assoc, nI_add]
    · rw [if_neg c, if_neg c, hr, Nat.zero_add]
theorem dSum_N {day : Int32} {es : Dy} (h : ∀ x ∈ es, ∃ v, 1 ≤ v ∧ v ≤ 1000 ∧ x.2 = nI v) : dSum es day = nI (bsN day es) := by
  unfold dSum
  rw [smL_N es 0 h, Int32.zero_add]
theorem TV.lo {tr : TR} (h : TV tr) : ∃ lo, 1 ≤ lo ∧ lo ≤ 1000 ∧ tr.1 1 = nI lo ∧ (tr.1 1).toNatClampNeg = lo := by
  obtain ⟨pa, lo, f, le, n, v1, v2, v3, v4, v5, v6, v7, v8, t0, t1, -⟩ := h
  exact ⟨lo, v2, v3, t1, by rw [t1, nI_clamp (by omega)]⟩
theorem TV.pf {tr : TR} (h : TV tr) : tr.1 2 = 0 ∨ tr.1 2 = 1 := by
  obtain ⟨pa, lo, f, le, n, v1, v2, v3, v4, v5, v6, v7, v8, t0, t1, t2, -⟩ := h
  exact t2
theorem TV.ds {tr : TR} (h : TV tr) : ∀ x ∈ tr.2.1, x.1 ≤ 3000 := by
  obtain ⟨pa, lo, f, le, n, v1, v2, v3, v4, v5, v6, v7, v8, t0, t1, t2, t4, t5, t6, t8, t9, tb, -⟩ := h
  intro x hx
  obtain ⟨d, hd, e⟩ := tb x hx
  rw [e]
  exact nI_le (a := d) (b := 3000) hd (by decide)
theorem lot_N {tr : TR} (hT : TV tr) (hG : GB tr) (bf : Nat → Int32) (k : Nat) : lotS tr.1 tr.2.1 bf k = nI ((tr.1 1).toNatClampNeg - bsN (bf k) tr.2.1) := by
  obtain ⟨lo, l1, l2, e, ec⟩ := hT.lo
  have h1 := bsN_le (bf k) tr.2.1
  have h2 := hG.2
  unfold lotS
  rw [dSum_N hG.1, ec, e]
  exact nI_sub (by omega)
theorem rst_N {tr : TR} (hT : TV tr) (hG : GB tr) : rstS tr.1 tr.2.1 = nI (rN tr) ∧ rN tr ≤ 1000 := by
  obtain ⟨lo, l1, l2, e, ec⟩ := hT.lo
  have h2 := hG.2
  unfold rstS rN
  refine ⟨?_, by omega⟩
  rw [dSum_N hG.1, bsN_all tr.2.1 hT.ds, ec, e]
  exact nI_sub (by omega)
/-- no period has less than nothing, or more than the one before it -/
theorem lot_ge {tr : TR} (hT : TV tr) (hG : GB tr) (bf : Nat → Int32) (k : Nat) : ¬ lotS tr.1 tr.2.1 bf k < 0 := by
  obtain ⟨lo, l1, l2, e, ec⟩ := hT.lo
  rw [lot_N hT hG]
  exact nI_pos (by omega)
theorem lot_mono {tr : TR} (hT : TV tr) (hG : GB tr) (bf : Nat → Int32) {j k : Nat} (h : bf j ≤ bf k) : lotS tr.1 tr.2.1 bf k ≤ lotS tr.1 tr.2.1 bf j := by
  obtain ⟨lo, l1, l2, e, ec⟩ := hT.lo
  have h1 := bsN_mono h tr.2.1
  rw [lot_N hT hG, lot_N hT hG]
  exact nI_le (by omega) (by omega)
/-- a break of w lots -/
theorem GB.brk {tr : TR} {d : Int32} {w : Nat} (hT : TV tr) (hG : GB tr) (h1 : 1 ≤ w) (h2 : w ≤ rN tr) : GB (brT tr d (nI w)) ∧ rN (brT tr d (nI w)) = rN tr - w := by
  obtain ⟨lo, l1, l2, e, ec⟩ := hT.lo
  have h3 := hG.2
  have h4 := (rst_N hT hG).2
  have hb : bsA (brT tr d (nI w)).2.1 = bsA tr.2.1 + w := by
    show bsA (tr.2.1 ++ [(d, nI w)]) = _
    rw [bsA_app, nI_clamp (by omega)]
  have h5 : (brT tr d (nI w)).1 = tr.1 := rfl
  refine ⟨⟨fun x hx => ?_, ?_⟩, ?_⟩
  · rcases List.mem_append.mp (show x ∈ tr.2.1 ++ [(d, nI w)] from hx) with c | c
    · exact hG.1 x c
    · rw [List.mem_singleton.mp c]; exact ⟨w, h1, by omega, rfl⟩
  · rw [hb, h5]; unfold rN at h2; omega
  · unfold rN; rw [hb, h5]; omega
/-- what both of a pair lose -/
theorem mn_N {tr ur : TR} (hT : TV tr) (hG : GB tr) (hU : TV ur) (hH : GB ur) : mnR tr ur = nI (min (rN tr) (rN ur)) := by
  obtain ⟨a1, a2⟩ := rst_N hT hG
  obtain ⟨b1, b2⟩ := rst_N hU hH
  unfold mnR
  rw [a1, b1]
  by_cases c : rN tr < rN ur
  · rw [if_pos (nI_lt c (by omega)), Nat.min_eq_left (by omega)]
  · rw [if_neg (nI_nlt (by omega) (by omega)), Nat.min_eq_right (by omega)]
theorem mn_pos {tr ur : TR} (hT : TV tr) (hG : GB tr) (hU : TV ur) (hH : GB ur) : 0 < mnR tr ur ↔ (1 ≤ rN tr ∧ 1 ≤ rN ur) := by
  have a2 := (rst_N hT hG).2
  have b2 := (rst_N hU hH).2
  rw [mn_N hT hG hU hH]
  have e : (0 : Int32) < nI (min (rN tr) (rN ur)) ↔ 0 < min (rN tr) (rN ur) := nI_ltI (a := 0) (by omega) (by omega)
  rw [e]
  omega
/-! a pressing keeps what each step keeps -/
theorem pin_ind {I : PS → Prop} {h0 h1 : Dy} {day : Int32} {n i : Nat} (step : ∀ j P, i < j → j < n → I P → I (pst h0 h1 day i j P)) : ∀ r j P, i < j → j + r ≤ n → I P → I (pin h0 h1 day i r j P)
  | 0, _, _, _, _, h => h
  | r + 1, j, P, h1', h2, h => pin_ind step r (j + 1) _ (by omega) (by omega) (step j P h1' (by omega) h)
theorem pou_ind {I : PS → Prop} {h0 h1 : Dy} {day : Int32} {n : Nat} (step : ∀ i j P, i < j → j < n → I P → I (pst h0 h1 day i j P)) : ∀ r i P, i + r ≤ n → I P → I (pou h0 h1 day n r i P)
  | 0, _, _, _, h => h
  | r + 1, i, P, h2, h => pou_ind step r (i + 1) _ (by omega) (pin_ind (fun j P => step i j P) (n - (i + 1)) (i + 1) P (by omega) (by omega) h)
theorem prs_ind {I : PS → Prop} {h0 h1 : Dy} {day : Int32} {ts : List TR} (step : ∀ i j P, i < j → j < ts.length → I P → I (pst h0 h1 day i j P)) (h : I (ts, 0, 0, [])) : I (prs h0 h1 day ts) := pou_ind step ts.length 0 _ (by omega) h
/-- the trades all along it -/
def GP (P : PS) : Prop := ∀ tr ∈ P.1, TV tr ∧ GB tr
def leT (tr' tr : TR) : Prop := tr'.1 = tr.1 ∧ tr'.2.2 = tr.2.2 ∧ rN tr' ≤ rN tr
theorem leT.rf {tr : TR} : leT tr tr := ⟨rfl, rfl, Nat.le_refl _⟩
theorem leT.br {tr : TR} {d : Int32} {w : Nat} (hT : TV tr) (hG : GB tr) (h1 : 1 ≤ w) (h2 : w ≤ rN tr) : leT (brT tr d (nI w)) tr := ⟨rfl, rfl, by rw [(GB.brk hT hG h1 h2).2]; omega⟩
/-- one step: no pair, or a pair broken -/
theorem pst_or {h0 h1 : Dy} {day : Int32} {i j : Nat} {P : PS} (hP : GP P) : pst h0 h1 day i j P = P ∨ ∃ tr ur w, P.1[i]? = some tr ∧ P.1[j]? = some ur ∧ (fitS tr.1 ur.1 && smeS tr.1 ur.1 tr.2.2 ur.2.2 (bfC h0 h1 tr.1) day (np tr)) = true ∧ mnR tr ur = nI w ∧ 1 ≤ w ∧ w ≤ rN tr ∧ w ≤ rN ur ∧ (w = rN tr ∨ w = rN ur) ∧ pst h0 h1 day i j P = ((P.1.set i (brT tr day (nI w))).set j (brT ur day (nI w)), P.2.1 + nI w, P.2.2.1 + 1, P.2.2.2 ++ [(nI i, day, nI w), (nI j, day, nI w)]) := by
  cases hi : P.1[i]? with
  | none => left; unfold pst; rw [hi]
  | some tr =>
    cases hj : P.1[j]? with
    | none => left; unfold pst; rw [hi, hj]
    | some ur =>
      rw [pst_at hi hj]
      obtain ⟨hT, hG⟩ := hP tr (List.mem_of_getElem? hi)
      obtain ⟨hU, hH⟩ := hP ur (List.mem_of_getElem? hj)
      cases c : prD h0 h1 day tr ur with
      | false => left; rw [if_neg (by decide)]
      | true =>
        right
        have c9 := c
        unfold prD at c9
        obtain ⟨c1, c2⟩ := Bool.and_eq_true_iff.mp c9
        have c2 := (mn_pos hT hG hU hH).mp (of_decide_eq_true c2)
        have em := mn_N hT hG hU hH
        refine ⟨tr, ur, min (rN tr) (rN ur), rfl, rfl, c1, em, by omega, by omega, by omega, by omega, ?_⟩
        rw [if_pos rfl, em]
theorem pst_gp {h0 h1 : Dy} {d : Nat} {i j : Nat} {P : PS} (hd : d ≤ 3000) (hP : GP P) : GP (pst h0 h1 (nI d) i j P) := by
  rcases pst_or (h0 := h0) (h1 := h1) (day := nI d) (i := i) (j := j) hP with e | ⟨tr, ur, w, hi, hj, c, em, w1, w2, w3, w4, e⟩
  · rw [e]; exact hP
  · rw [e]
    obtain ⟨hT, hG⟩ := hP tr (List.mem_of_getElem? hi)
    obtain ⟨hU, hH⟩ := hP ur (List.mem_of_getElem? hj)
    intro y hy
    rcases List.mem_or_eq_of_mem_set hy with hy | e
    · rcases List.mem_or_eq_of_mem_set hy with hy | e
      · exact hP y hy
      · rw [e]; exact ⟨hT.brT hd _, (GB.brk hT hG w1 w2).1⟩
    · rw [e]; exact ⟨hU.brT hd _, (GB.brk hU hH w1 w3).1⟩
/-- each trade behind a step comes of the one in its place -/
theorem pst_le {h0 h1 : Dy} {day : Int32} {i j : Nat} {P : PS} (hij : i < j) (hP : GP P) {a : Nat} {tr' : TR} (ha : (pst h0 h1 day i j P).1[a]? = some tr') : ∃ tr, P.1[a]? = some tr ∧ leT tr' tr := by
  rcases pst_or (h0 := h0) (h1 := h1) (day := day) (i := i) (j := j) hP with e | ⟨tr, ur, w, hi, hj, c, em, w1, w2, w3, w4, e⟩
  · rw [e] at ha; exact ⟨tr', ha, leT.rf⟩
  · rw [e] at ha
    obtain ⟨hT, hG⟩ := hP tr (List.mem_of_getElem? hi)
    obtain ⟨hU, hH⟩ := hP ur (List.mem_of_getElem? hj)
    rcases set_at ha with ⟨q1, q2, -⟩ | ⟨q1, ha⟩
    · subst q1 q2; exact ⟨ur, hj, leT.br hU hH w1 w3⟩
    · rcases set_at ha with ⟨q2, q3, -⟩ | ⟨q2, ha⟩
      · subst q2 q3; exact ⟨tr, hi, leT.br hT hG w1 w2⟩
      · exact ⟨tr', ha, leT.rf⟩
/-- a pair that can't be broken any more -/
def dead (h0 h1 : Dy) (day : Int32) (P : PS) (i j : Nat) : Prop := ∀ tr ur, P.1[i]? = some tr → P.1[j]? = some ur → prD h0 h1 day tr ur = false
theorem prD_no {h0 h1 : Dy} {day : Int32} {tr ur : TR} (h : ¬ 0 < mnR tr ur) : prD h0 h1 day tr ur = false := by
  unfold prD
  rw [decide_eq_false h, Bool.and_false]
theorem dead_le {h0 h1 : Dy} {day : Int32} {tr ur tr' ur' : TR} (h : prD h0 h1 day tr ur = false) (hT : TV tr ∧ GB tr) (hU : TV ur ∧ GB ur) (hT' : TV tr' ∧ GB tr') (hU' : TV ur' ∧ GB ur') (a : leT tr' tr) (b : leT ur' ur) : prD h0 h1 day tr' ur' = false := by
  by_cases c : 0 < mnR tr' ur'
  · have c1 := (mn_pos hT'.1 hT'.2 hU'.1 hU'.2).mp c
    have c2 : 0 < mnR tr ur := (mn_pos hT.1 hT.2 hU.1 hU.2).mpr ⟨Nat.le_trans c1.1 a.2.2, Nat.le_trans c1.2 b.2.2⟩
    unfold prD at h ⊢
    rw [decide_eq_true c2, Bool.and_true] at h
    rw [decide_eq_true c, Bool.and_true, a.1, b.1, a.2.1, b.2.1]
    rw [show np tr' = np tr by unfold np; rw [a.1]]
    exact h
  · exact prD_no c
theorem pst_keep {h0 h1 : Dy} {d i j a b : Nat} {P : PS} (hd : d ≤ 3000) (hij : i < j) (hP : GP P) (h : dead h0 h1 (nI d) P a b) : dead h0 h1 (nI d) (pst h0 h1 (nI d) i j P) a b := by
  intro tr' ur' ha hb
  obtain ⟨tr, h1', l1⟩ := pst_le hij hP ha
  obtain ⟨ur, h2', l2⟩ := pst_le hij hP hb
  have hP' := pst_gp (h0 := h0) (h1 := h1) (i := i) (j := j) hd hP
  exact dead_le (h tr ur h1' h2') (hP tr (List.mem_of_getElem? h1')) (hP ur (List.mem_of_getElem? h2')) (hP' tr' (List.mem_of_getElem? ha)) (hP' ur' (List.mem_of_getElem? hb)) l1 l2
theorem pst_self {h0 h1 : Dy} {d i j : Nat} {P : PS} (hd : d ≤ 3000) (hij : i < j) (hP : GP P) : dead h0 h1 (nI d) (pst h0 h1 (nI d) i j P) i j := by
  intro tr' ur' ha hb
  have hP' := pst_gp (h0 := h0) (h1 := h1) (i := i) (j := j) hd hP
  have hT' := hP' tr' (List.mem_of_getElem? ha)
  have hU' := hP' ur' (List.mem_of_getElem? hb)
  rcases pst_or (h0 := h0) (h1 := h1) (day := nI d) (i := i) (j := j) hP with e | ⟨tr, ur, w, hi, hj, c, em, w1, w2, w3, w4, e⟩
  · rw [e] at ha hb
    cases c : prD h0 h1 (nI d) tr' ur' with
    | false => rfl
    | true =>
      exfalso
      rw [pst_at ha hb, if_pos c] at e
      have e2 : P.2.2.1 + 1 = P.2.2.1 := congrArg (fun q : PS => q.2.2.1) e
      omega
  · obtain ⟨hT, hG⟩ := hP tr (List.mem_of_getElem? hi)
    obtain ⟨hU, hH⟩ := hP ur (List.mem_of_getElem? hj)
    rw [e] at ha hb
    have hlj : j < (P.1.set i (brT tr (nI d) (nI w))).length := by rw [List.length_set]; exact lt_of_get hj
    have hb' : ((P.1.set i (brT tr (nI d) (nI w))).set j (brT ur (nI d) (nI w)))[j]? = some ur' := hb
    rw [List.getElem?_set_self hlj] at hb'
    have ha' : ((P.1.set i (brT tr (nI d) (nI w))).set j (brT ur (nI d) (nI w)))[i]? = some tr' := ha
    rw [List.getElem?_set_ne (by omega), List.getElem?_set_self (lt_of_get hi)] at ha'
    cases ha'
    cases hb'
    refine prD_no (fun q => ?_)
    have q := (mn_pos hT'.1 hT'.2 hU'.1 hU'.2).mp q
    rw [(GB.brk hT hG w1 w2).2, (GB.brk hU hH w1 w3).2] at q
    omega
/-- behind a pressing no pair can be broken -/
theorem pin_dead {h0 h1 : Dy} {d i : Nat} (hd : d ≤ 3000) : ∀ r j P, i < j → GP P → GP (pin h0 h1 (nI d) i r j P) ∧ (∀ a b, dead h0 h1 (nI d) P a b → dead h0 h1 (nI d) (pin h0 h1 (nI d) i r j P) a b) ∧ (∀ q, j ≤ q → q < j + r → dead h0 h1 (nI d) (pin h0 h1 (nI d) i r j P) i q)
  | 0, j, P, _, hP => ⟨hP, fun _ _ h => h, fun q a b => by omega⟩
  | r + 1, j, P, hij, hP => by
    have hP1 := pst_gp (h0 := h0) (h1 := h1) (i := i) (j := j) hd hP
    obtain ⟨a1, a2, a3⟩ := pin_dead (h0 := h0) (h1 := h1) (i := i) hd r (j + 1) (pst h0 h1 (nI d) i j P) (by omega) hP1
    refine ⟨a1, fun a b h => a2 a b (pst_keep hd hij hP h), fun q q1 q2 => ?_⟩
    rcases Nat.eq_or_lt_of_le q1 with e | e
    · subst e; exact a2 _ _ (pst_self hd hij hP)
    · exact a3 q e (by omega)
theorem pou_dead {h0 h1 : Dy} {d n : Nat} (hd : d ≤ 3000) : ∀ r i P, i + r = n → GP P → GP (pou h0 h1 (nI d) n r i P) ∧ (∀ a b, dead h0 h1 (nI d) P a b → dead h0 h1 (nI d) (pou h0 h1 (nI d) n r i P) a b) ∧ (∀ p q, i ≤ p → p < q → q < n → dead h0 h1 (nI d) (pou h0 h1 (nI d) n r i P) p q)
  | 0, i, P, hr, hP => ⟨hP, fun _ _ h => h, fun p q a b c => by omega⟩
  | r + 1, i, P, hr, hP => by
    obtain ⟨b1, b2, b3⟩ := pin_dead (h0 := h0) (h1 := h1) (i := i) hd (n - (i + 1)) (i + 1) P (by omega) hP
    obtain ⟨a1, a2, a3⟩ := pou_dead (h0 := h0) (h1 := h1) (n := n) hd r (i + 1) (pin h0 h1 (nI d) i (n - (i + 1)) (i + 1) P) (by omega) b1
    refine ⟨a1, fun a b h => a2 a b (b2 a b h), fun p q q1 q2 q3 => ?_⟩
    rcases Nat.eq_or_lt_of_le q1 with e | e
    · subst e; exact a2 _ _ (b3 q (by omega) (by omega))
    · exact a3 p q e q2 q3
theorem pst_dead {h0 h1 : Dy} {day : Int32} {i j : Nat} {P : PS} (h : dead h0 h1 day P i j) : pst h0 h1 day i j P = P := by
  unfold pst
  split
  · rename_i tr ur hi hj
    rw [if_neg (by rw [h tr ur hi hj]; decide)]
  · rfl
theorem pin_no {h0 h1 : Dy} {day : Int32} {i : Nat} {P : PS} : ∀ r j, (∀ q, j ≤ q → q < j + r → dead h0 h1 day P i q) → pin h0 h1 day i r j P = P
  | 0, _, _ => rfl
  | r + 1, j, h => by
    show pin h0 h1 day i r (j + 1) (pst h0 h1 day i j P) = P
    rw [pst_dead (h j (Nat.le_refl _) (by omega))]
    exact pin_no r (j + 1) (fun q a b => h q (by omega) (by omega))
theorem pou_no {h0 h1 : Dy} {day : Int32} {n : Nat} {P : PS} : ∀ r i, i + r = n → (∀ p q, i ≤ p → p < q → q < n → dead h0 h1 day P p q) → pou h0 h1 day n r i P = P
  | 0, _, _, _ => rfl
  | r + 1, i, hr, h => by
    show pou h0 h1 day n r (i + 1) (pin h0 h1 day i (n - (i + 1)) (i + 1) P) = P
    rw [pin_no _ _ (fun q a b => h i q (Nat.le_refl _) (by omega) (by omega))]
    exact pou_no r (i + 1) (by omega) (fun p q a b c => h p q (by omega) b c)
theorem prs_len {h0 h1 : Dy} {day : Int32} {ts : List TR} : (prs h0 h1 day ts).1.length = ts.length := prs_ind (I := fun P => P.1.length = ts.length) (fun i j P _ _ h => by
  unfold pst
  split
  · split
    · show ((P.1.set i _).set j _).length = _
      rw [List.length_set, List.length_set]; exact h
    · exact h
  · exact h) rfl
/-- pressing once more for the day breaks nothing -/
theorem prs_two {h0 h1 : Dy} {d : Nat} {ts : List TR} (hd : d ≤ 3000) (hP : ∀ tr ∈ ts, TV tr ∧ GB tr) : prs h0 h1 (nI d) (prs h0 h1 (nI d) ts).1 = ((prs h0 h1 (nI d) ts).1, 0, 0, []) := by
  obtain ⟨-, -, a3⟩ := pou_dead (h0 := h0) (h1 := h1) (n := ts.length) hd ts.length 0 (ts, 0, 0, []) (by omega) hP
  show pou h0 h1 (nI d) (prs h0 h1 (nI d) ts).1.length (prs h0 h1 (nI d) ts).1.length 0 _ = _
  rw [prs_len]
  exact pou_no ts.length 0 (by omega) (fun p q x1 x2 x3 tr ur h1' h2' => a3 p q x1 x2 x3 tr ur h1' h2')
end
section
/-! pressing changes no party's cash -/
theorem fitS_eq {T U : Nat → Int32} (h : fitS T U = true) : ¬ T 2 = U 2 ∧ T 3 = U 3 ∧ T 7 = U 7 ∧ T 4 = U 4 ∧ T 5 = U 5 ∧ T 6 = U 6 ∧ T 8 = U 8 ∧ T 9 = U 9 := by
  unfold fitS at h
  simp only [Bool.and_eq_true, decide_eq_true_eq] at h
  exact h
theorem bfC_fit {h0 h1 : Dy} {T U : Nat → Int32} (h4 : T 4 = U 4) (h5 : T 5 = U 5) (h6 : T 6 = U 6) : bfC h0 h1 T = bfC h0 h1 U := by
  funext k
  unfold bfC
  rw [h4, h5, h6]
theorem dys_fit {T U : Nat → Int32} {bf : Nat → Int32} (h5 : T 5 = U 5) (h8 : T 8 = U 8) (k : Nat) : dys T bf k = dys U bf k := by
  unfold dys
  rw [h5, h8]
theorem flS_fit {T U : Nat → Int32} {bf : Nat → Int32} {fx : Dy} (h5 : T 5 = U 5) (h7 : T 7 = U 7) (h8 : T 8 = U 8) (h9 : T 9 = U 9) : ∀ k, flS T bf fx k = flS U bf fx k
  | 0 => rfl
  | k + 1 => by
    unfold flS
    rw [flS_fit h5 h7 h8 h9 k, dys_fit h5 h8 k, h7, h9]
theorem gnS_fit {T U : Nat → Int32} {bf : Nat → Int32} {fx : Dy} (h3 : T 3 = U 3) (h5 : T 5 = U 5) (h7 : T 7 = U 7) (h8 : T 8 = U 8) (h9 : T 9 = U 9) (k : Nat) : gnS T bf fx k = gnS U bf fx k := by
  unfold gnS fltS
  rw [flS_fit h5 h7 h8 h9 (k + 1), dys_fit h5 h8 k, h3]
theorem sme_at {T U : Nat → Int32} {hs hu : Dy} {bf : Nat → Int32} {day : Int32} {n : Nat} (h : smeS T U hs hu bf day n = true) {k : Nat} (hk : k < n) (hd : day ≤ bf k) : hldS T hs (bf (k + 1)) = hldS U hu (bf (k + 1)) := by
  have h2 : (smpS T U hs hu bf day n).2 = true := (Bool.and_eq_true_iff.mp h).2
  have h3 : (smpS T U hs hu bf day (k + 1)).2 = true := by
    cases c : (smpS T U hs hu bf day (k + 1)).2 with
    | true => rfl
    | false => rw [smpS_f c n hk] at h2; exact h2
  unfold smpS at h3
  rw [if_pos hd] at h3
  exact of_decide_eq_true (Bool.and_eq_true_iff.mp h3).2
theorem lot_br {T : Nat → Int32} {bs : Dy} {bf : Nat → Int32} {d v : Int32} {k : Nat} : lotS T (bs ++ [(d, v)]) bf k = if d ≤ bf k then lotS T bs bf k - v else lotS T bs bf k := by
  unfold lotS dSum
  rw [smL_app]
  by_cases c : d ≤ bf k
  · rw [if_pos c, if_pos c, Int32.sub_sub]
  · rw [if_neg c, if_neg c]
theorem i64_no (a w g : Int64) : (a - w) * g = a * g - w * g := Int64.sub_mul
/-- a break's flows: w times the gain less -/
theorem flw_br {tr : TR} {bf : Nat → Int32} {fx : Dy} {d : Int32} {w k : Nat} (hT : TV tr) (hG : GB tr) (h2 : w ≤ rN tr) : flwS tr.1 (tr.2.1 ++ [(d, nI w)]) bf fx k = if d ≤ bf k then flwS tr.1 tr.2.1 bf fx k - lN w * (if tr.1 2 = 0 then -(gnS tr.1 bf fx k) else gnS tr.1 bf fx k) else flwS tr.1 tr.2.1 bf fx k := by
  obtain ⟨lo, l1, l2, e, ec⟩ := hT.lo
  have h4 := bsN_le (bf k) tr.2.1
  have h3 := hG.2
  unfold flwS
  rw [lot_br]
  by_cases c : d ≤ bf k
  · rw [if_pos c, if_pos c, lot_N hT hG]
    unfold rN at h2
    rw [nI_sub (by omega), nI_l (by omega), nI_l (by omega), ← lN_sub (b := w) (by omega)]
    exact i64_no _ _ _
  · rw [if_neg c, if_neg c]
theorem i64_pr (a b w g : Int64) : a - w * g + (b - w * -g) = a + b := by
  rw [Int64.mul_neg]
  grind
theorem i64_pr2 (a b w g : Int64) : a - w * -g + (b - w * g) = a + b := by
  rw [Int64.mul_neg]
  grind
/-- both flows of a pair together are as before -/
theorem flw_pair {tr ur : TR} {bf : Nat → Int32} {fx : Dy} {d : Int32} {w k : Nat} (hT : TV tr) (hG : GB tr) (hU : TV ur) (hH : GB ur) (h1 : w ≤ rN tr) (h2 : w ≤ rN ur) (hf : fitS tr.1 ur.1 = true) (c : d ≤ bf k) : flwS tr.1 (tr.2.1 ++ [(d, nI w)]) bf fx k + flwS ur.1 (ur.2.1 ++ [(d, nI w)]) bf fx k = flwS tr.1 tr.2.1 bf fx k + flwS ur.1 ur.2.1 bf fx k := by
  obtain ⟨f2, f3, f7, f4, f5, f6, f8, f9⟩ := fitS_eq hf
  rw [flw_br hT hG h1, flw_br hU hH h2, if_pos c, if_pos c, gnS_fit f3 f5 f7 f8 f9 k]
  rcases hT.pf with e | e <;> rcases hU.pf with e2 | e2
  · exact absurd (e.trans e2.symm) f2
  · rw [if_pos e, if_neg (by rw [e2]; decide)]; exact i64_pr2 _ _ _ _
  · rw [if_neg (by rw [e]; decide), if_pos e2]; exact i64_pr _ _ _ _
  · exact absurd (e.trans e2.symm) f2
theorem i64_b {a b c d x y z w : Int64} (h : a + b = c + d) (h2 : x + y = z + w) : (a + x) + (b + y) = (c + z) + (d + w) := by
  have e1 : (a + x) + (b + y) = (a + b) + (x + y) := by ac_rfl
  have e2 : (c + z) + (d + w) = (c + d) + (z + w) := by ac_rfl
  rw [e1, e2, h, h2]
theorem i64_c {a b c d x : Int64} (h : a + b = c + d) : (a + x) + b = (c + x) + d := by
  have e1 : (a + x) + b = (a + b) + x := by ac_rfl
  have e2 : (c + x) + d = (c + d) + x := by ac_rfl
  rw [e1, e2, h]
theorem i64_d {a b c d x : Int64} (h : a + b = c + d) : a + (b + x) = c + (d + x) := by
  have e1 : a + (b + x) = (a + b) + x := by ac_rfl
  have e2 : c + (d + x) = (c + d) + x := by ac_rfl
  rw [e1, e2, h]
theorem csh_pair {tr ur : TR} {bf : Nat → Int32} {fx : Dy} {d pa d1 d2 : Int32} {w n : Nat} (hT : TV tr) (hG : GB tr) (hU : TV ur) (hH : GB ur) (h1 : w ≤ rN tr) (h2 : w ≤ rN ur) (hf : fitS tr.1 ur.1 = true) (hs : smeS tr.1 ur.1 tr.2.2 ur.2.2 bf d n = true) : ∀ k, k ≤ n → cshS tr.1 (tr.2.1 ++ [(d, nI w)]) tr.2.2 bf fx pa d1 d2 k + cshS ur.1 (ur.2.1 ++ [(d, nI w)]) ur.2.2 bf fx pa d1 d2 k = cshS tr.1 tr.2.1 tr.2.2 bf fx pa d1 d2 k + cshS ur.1 ur.2.1 ur.2.2 bf fx pa d1 d2 k
  | 0, _ => rfl
  | k + 1, hk => by
    have ih := csh_pair (fx := fx) (pa := pa) (d1 := d1) (d2 := d2) hT hG hU hH h1 h2 hf hs k (by omega)
    unfold cshS
    by_cases c : d ≤ bf k
    · have hh := sme_at hs (k := k) (by omega) c
      by_cases cT : d1 ≤ bf (k + 1) ∧ bf (k + 1) ≤ d2 ∧ hldS tr.1 tr.2.2 (bf (k + 1)) = pa
      · have cU : d1 ≤ bf (k + 1) ∧ bf (k + 1) ≤ d2 ∧ hldS ur.1 ur.2.2 (bf (k + 1)) = pa := ⟨cT.1, cT.2.1, hh ▸ cT.2.2⟩
        rw [if_pos cT, if_pos cU, if_pos cT, if_pos cU]
        exact i64_b ih (flw_pair hT hG hU hH h1 h2 hf c)
      · have cU : ¬ (d1 ≤ bf (k + 1) ∧ bf (k + 1) ≤ d2 ∧ hldS ur.1 ur.2.2 (bf (k + 1)) = pa) := fun q => cT ⟨q.1, q.2.1, hh.trans q.2.2⟩
        rw [if_neg cT, if_neg cU, if_neg cT, if_neg cU]
        exact ih
    · rw [flw_br hT hG h1, flw_br hU hH h2, if_neg c, if_neg c]
      by_cases cT : d1 ≤ bf (k + 1) ∧ bf (k + 1) ≤ d2 ∧ hldS tr.1 tr.2.2 (bf (k + 1)) = pa <;> by_cases cU : d1 ≤ bf (k + 1) ∧ bf (k + 1) ≤ d2 ∧ hldS ur.1 ur.2.2 (bf (k + 1)) = pa
      · rw [if_pos cT, if_pos cU, if_pos cT, if_pos cU]; exact i64_b ih rfl
      · rw [if_pos cT, if_neg cU, if_pos cT, if_neg cU]; exact i64_c ih
      · rw [if_neg cT, if_pos cU, if_neg cT, if_pos cU]; exact i64_d ih
      · rw [if_neg cT, if_neg cU, if_neg cT, if_neg cU]; exact ih
theorem sumS_set {h0 h1 fx : Dy} {pa d1 d2 : Int32} {x tr : TR} : ∀ (ts : List TR) (i : Nat), ts[i]? = some tr → sumS h0 h1 fx pa d1 d2 0 (ts.set i x) + csh1 h0 h1 fx pa d1 d2 tr = sumS h0 h1 fx pa d1 d2 0 ts + csh1 h0 h1 fx pa d1 d2 x
  | [], i, ht => by cases i <;> cases ht
  | t :: ts, 0, ht => by
    cases ht
    show sumS h0 h1 fx pa d1 d2 0 (x :: ts) + _ = _
    rw [sumS_c0, sumS_c0]
    ac_rfl
  | t :: ts, i + 1, ht => by
    have ih := sumS_set (h0 := h0) (h1 := h1) (fx := fx) (pa := pa) (d1 := d1) (d2 := d2) (x := x) ts i ht
    show sumS h0 h1 fx pa d1 d2 0 (t :: ts.set i x) + _ = _
    rw [sumS_c0, sumS_c0, Int64.add_assoc, ih, Int64.add_assoc]
theorem i64_can {S0 S1 S2 a b a' b' : Int64} (h1 : S1 + a = S0 + a') (h2 : S2 + b = S1 + b') (h : a' + b' = a + b) : S2 = S0 := by
  have e : S2 + (a + b) = S0 + (a + b) := by
    have e1 : S2 + (a + b) = (S2 + b) + a := by ac_rfl
    have e2 : S1 + b' + a = (S1 + a) + b' := by ac_rfl
    rw [e1, h2, e2, h1, Int64.add_assoc, h]
  exact (Int64.add_left_inj _).mp e
/-- one step -/
theorem pst_cash {h0 h1 fx : Dy} {pa d1 d2 day : Int32} {i j : Nat} {P : PS} (hij : i < j) (hP : GP P) : sumS h0 h1 fx pa d1 d2 0 (pst h0 h1 day i j P).1 = sumS h0 h1 fx pa d1 d2 0 P.1 := by
  rcases pst_or (h0 := h0) (h1 := h1) (day := day) (i := i) (j := j) hP with e | ⟨tr, ur, w, hi, hj, c, em, w1, w2, w3, w4, e⟩
  · rw [e]
  · rw [e]
    obtain ⟨hT, hG⟩ := hP tr (List.mem_of_getElem? hi)
    obtain ⟨hU, hH⟩ := hP ur (List.mem_of_getElem? hj)
    obtain ⟨c1, c2⟩ := Bool.and_eq_true_iff.mp c
    obtain ⟨f2, f3, f7, f4, f5, f6, f8, f9⟩ := fitS_eq c1
    have hj2 : (P.1.set i (brT tr day (nI w)))[j]? = some ur := by rw [List.getElem?_set_ne (by omega)]; exact hj
    have a1 := sumS_set (h0 := h0) (h1 := h1) (fx := fx) (pa := pa) (d1 := d1) (d2 := d2) (x := brT tr day (nI w)) P.1 i hi
    have a2 := sumS_set (h0 := h0) (h1 := h1) (fx := fx) (pa := pa) (d1 := d1) (d2 := d2) (x := brT ur day (nI w)) (P.1.set i (brT tr day (nI w))) j hj2
    refine i64_can a1 a2 ?_
    have en : np ur = np tr := by unfold np; rw [f6]
    show cshS tr.1 (tr.2.1 ++ [(day, nI w)]) tr.2.2 (bfC h0 h1 tr.1) fx pa d1 d2 (np tr) + cshS ur.1 (ur.2.1 ++ [(day, nI w)]) ur.2.2 (bfC h0 h1 ur.1) fx pa d1 d2 (np ur) = cshS tr.1 tr.2.1 tr.2.2 (bfC h0 h1 tr.1) fx pa d1 d2 (np tr) + cshS ur.1 ur.2.1 ur.2.2 (bfC h0 h1 ur.1) fx pa d1 d2 (np ur)
    rw [en, ← bfC_fit f4 f5 f6]
    exact csh_pair hT hG hU hH w2 w3 c1 c2 _ (Nat.le_refl _)
/-- the trades that the law makes -/
def GT (tr : TR) : Prop := GB tr ∧ HV tr ∧ np tr ≤ 5 ∧ ∃ f, f ≤ 14 ∧ tr.1 4 = nI f ∧ tr.1 5 = 30
theorem GT.br {tr : TR} {d : Int32} {w : Nat} (hT : TV tr) (h : GT tr) (h1 : 1 ≤ w) (h2 : w ≤ rN tr) : GT (brT tr d (nI w)) := ⟨(GB.brk hT h.1 h1 h2).1, h.2⟩
/-- a pressing: the trades stay good, no cash changes, what is pressed is not below 0 -/
theorem prs_all {h0 h1 fx : Dy} {d : Nat} {ts : List TR} (hd : d ≤ 3000) (hP : ∀ tr ∈ ts, TV tr ∧ GT tr) : (∀ tr ∈ (prs h0 h1 (nI d) ts).1, TV tr ∧ GT tr) ∧ (∀ pa d1 d2, sumS h0 h1 fx pa d1 d2 0 (prs h0 h1 (nI d) ts).1 = sumS h0 h1 fx pa d1 d2 0 ts) ∧ (∃ q, (prs h0 h1 (nI d) ts).2.1 = nI q ∧ q ≤ 1000 * (prs h0 h1 (nI d) ts).2.2.1) ∧ (∀ (a : Nat) (tr' : TR), (prs h0 h1 (nI d) ts).1[a]? = some tr' → ∃ tr, ts[a]? = some tr ∧ leT tr' tr) :=
  prs_ind (I := fun P => (∀ tr ∈ P.1, TV tr ∧ GT tr) ∧ (∀ pa d1 d2, sumS h0 h1 fx pa d1 d2 0 P.1 = sumS h0 h1 fx pa d1 d2 0 ts) ∧ (∃ q, P.2.1 = nI q ∧ q ≤ 1000 * P.2.2.1) ∧ (∀ (a : Nat) (tr' : TR), P.1[a]? = some tr' → ∃ tr, ts[a]? = some tr ∧ leT tr' tr)) (fun i j P hij hjn h => by
    obtain ⟨b1, b2, ⟨q, b3, b4⟩, b5⟩ := h
    have hP1 : GP P := fun tr ht => ⟨(b1 tr ht).1, (b1 tr ht).2.1⟩
    refine ⟨?_, fun pa d1 d2 => (pst_cash hij hP1).trans (b2 pa d1 d2), ?_, fun a tr' ha => ?_⟩
    · rcases pst_or (h0 := h0) (h1 := h1) (day := nI d) (i := i) (j := j) hP1 with e | ⟨tr, ur, w, hi, hj, c, em, w1, w2, w3, w4, e⟩
      · rw [e]; exact b1
      · rw [e]
        obtain ⟨hT, hG⟩ := b1 tr (List.mem_of_getElem? hi)
        obtain ⟨hU, hH⟩ := b1 ur (List.mem_of_getElem? hj)
        intro y hy
        rcases List.mem_or_eq_of_mem_set hy with hy | e
        · rcases List.mem_or_eq_of_mem_set hy with hy | e
          · exact b1 y hy
          · rw [e]; exact ⟨hT.brT hd _, hG.br hT w1 w2⟩
        · rw [e]; exact ⟨hU.brT hd _, hH.br hU w1 w3⟩
    · rcases pst_or (h0 := h0) (h1 := h1) (day := nI d) (i := i) (j := j) hP1 with e | ⟨tr, ur, w, hi, hj, c, em, w1, w2, w3, w4, e⟩
      · rw [e]; exact ⟨q, b3, b4⟩
      · rw [e]
        have h9 := (rst_N (b1 tr (List.mem_of_getElem? hi)).1 (b1 tr (List.mem_of_getElem? hi)).2.1).2
        refine ⟨q + w, ?_, ?_⟩
        · show P.2.1 + nI w = _
          rw [b3, nI_add]
        · show q + w ≤ 1000 * (P.2.2.1 + 1)
          omega
    · obtain ⟨t1, ht1, l1⟩ := pst_le hij hP1 ha
      obtain ⟨t2, ht2, l2⟩ := b5 a t1 ht1
      exact ⟨t2, ht2, l1.1.trans l2.1, l1.2.1.trans l2.2.1, Nat.le_trans l1.2.2 l2.2.2⟩) ⟨hP, fun _ _ _ => rfl, ⟨0, rfl, Nat.zero_le _⟩, fun a tr' ha => ⟨tr', ha, leT.rf⟩⟩
end
section
/-! the class's methods where they throw nothing -/
theorem XCon.con {E : ET} {y : MethodName} {b : ByteArray} {mL : Nat} {ret : Option FieldType} {k mc ms : Nat} {av : List Value} {H : Heap} {out out2 : Option Value → Heap → Prop} {bad : String → Prop} (h : XCon E y b mL ret k mc ms av H out bad) (hn : ∀ X, ¬ bad X) (ho : ∀ v H', out v H' → out2 v H') : Con E y b mL ret k mc ms av H out2 := by
  intro p e ha hc hk s m args below hf happ hP hK
  obtain ⟨n, o, h1, h2, h3, h4⟩ := h p e ha hc hk s m args below hf happ hP hK
  refine ⟨n, o, h1, h2, h3, ?_⟩
  rcases h4 with ⟨⟨v, q1, q2, q3⟩, hL⟩ | ⟨q, -, X, ce, L, hx, -⟩
  · exact ⟨⟨v, q1, ho _ _ q2, q3⟩, hL⟩
  · exact absurd hx.1 (hn X)
theorem nI_inj {a b : Nat} (h : nI a = nI b) (ha : a < 2 ^ 31) (hb : b < 2 ^ 31) : a = b := (nI_eq ha hb).mp h
theorem inB_of {j a b : Nat} (h1 : a ≤ j) (h2 : j ≤ b) (hb : b < 2 ^ 31) : inB (nI j) (nI a) (nI b) = true := by
  unfold inB
  rw [decide_eq_true (nI_le h1 (by omega)), decide_eq_true (nI_le h2 hb)]
  rfl
section NX
variable {E : ET} {ow : Nat → Nat × Nat} {x : Nat} {h0 h1 fx : Dy} {ts : List TR} {H : Heap}
theorem prd_ok {t k : Nat} {tr : TR} (hV : SV h0 h1 fx ts) (ht : ts[t]? = some tr) (hk : k < np tr) : trd ts (nI t) = some tr ∧ prd tr (nI k) = some k := by
  have h1' := lt_of_get ht
  have h2 := hV.tn
  have h3 := (hV.tv ht).n.2.2
  exact ⟨by rw [trd_nI (by omega)]; exact ht, prd_nI (by omega) hk⟩
theorem n_start {t k : Nat} {tr : TR} (hX : XR E ow x h0 h1 fx ts H) (hV : SV h0 h1 fx ts) (hK : BL ts) (ht : ts[t]? = some tr) (hk : k < np tr) : Con E yX4_start cX4_start 3 (some FieldType.int) 10 2 12 [.ref x, .int (nI t), .int (nI k)] H (o1 (some (.int (bfC h0 h1 tr.1 k))) (fun H' => H' = H)) := by
  obtain ⟨e1, e2⟩ := prd_ok hV ht hk
  refine (c_xstart E ow x h0 h1 fx ts (nI t) (nI k) H hX hV hK).con (fun X h => ?_) (fun v H' h => ?_)
  · have h2 := h.2; rw [e1] at h2; have h2 : prd tr (nI k) = none := h2; rw [e2] at h2; cases h2
  · obtain ⟨⟨ur, j, h1', h2⟩, h3⟩ := h
    rw [e1] at h1'
    have h1' : (prd tr (nI k)).map (fun j => (tr, j)) = some (ur, j) := h1'
    rw [e2] at h1'
    cases h1'
    exact ⟨h2, h3⟩
theorem n_end {t k : Nat} {tr : TR} (hX : XR E ow x h0 h1 fx ts H) (hV : SV h0 h1 fx ts) (hK : BL ts) (ht : ts[t]? = some tr) (hk : k < np tr) : Con E yX4_end cX4_end 3 (some FieldType.int) 10 2 12 [.ref x, .int (nI t), .int (nI k)] H (o1 (some (.int (bfC h0 h1 tr.1 (k + 1)))) (fun H' => H' = H)) := by
  obtain ⟨e1, e2⟩ := prd_ok hV ht hk
  refine (c_xend E ow x h0 h1 fx ts (nI t) (nI k) H hX hV hK).con (fun X h => ?_) (fun v H' h => ?_)
  · have h2 := h.2; rw [e1] at h2; have h2 : prd tr (nI k) = none := h2; rw [e2] at h2; cases h2
  · obtain ⟨⟨ur, j, h1', h2⟩, h3⟩ := h
    rw [e1] at h1'
    have h1' : (prd tr (nI k)).map (fun j => (tr, j)) = some (ur, j) := h1'
    rw [e2] at h1'
    cases h1'
    exact ⟨h2, h3⟩
theorem n_lots {t k : Nat} {tr : TR} (hX : XR E ow x h0 h1 fx ts H) (hV : SV h0 h1 fx ts) (hK : BL ts) (ht : ts[t]? = some tr) (hk : k < np tr) : Con E yX4_lots cX4_lots 3 (some FieldType.int) 10 2 12 [.ref x, .int (nI t), .int (nI k)] H (o1 (some (.int (lotS tr.1 tr.2.1 (bfC h0 h1 tr.1) k))) (fun H' => H' = H)) := by
  obtain ⟨e1, e2⟩ := prd_ok hV ht hk
  refine (c_xlots E ow x h0 h1 fx ts (nI t) (nI k) H hX hV hK).con (fun X h => ?_) (fun v H' h => ?_)
  · have h2 := h.2; rw [e1] at h2; have h2 : prd tr (nI k) = none := h2; rw [e2] at h2; cases h2
  · obtain ⟨⟨ur, j, h1', h2⟩, h3⟩ := h
    rw [e1] at h1'
    have h1' : (prd tr (nI k)).map (fun j => (tr, j)) = some (ur, j) := h1'
    rw [e2] at h1'
    cases h1'
    exact ⟨h2, h3⟩
theorem n_flow {t k : Nat} {tr : TR} (hX : XR E ow x h0 h1 fx ts H) (hV : SV h0 h1 fx ts) (hK : BL ts) (ht : ts[t]? = some tr) (hk : k < np tr) : Con E yX4_flow cX4_flow 3 (some FieldType.long) 10 2 12 [.ref x, .int (nI t), .int (nI k)] H (o1 (some (.long (flwS tr.1 tr.2.1 (bfC h0 h1 tr.1) fx k))) (fun H' => H' = H)) := by
  obtain ⟨e1, e2⟩ := prd_ok hV ht hk
  refine (c_xflow E ow x h0 h1 fx ts (nI t) (nI k) H hX hV hK).con (fun X h => ?_) (fun v H' h => ?_)
  · have h2 := h.2; rw [e1] at h2; have h2 : prd tr (nI k) = none := h2; rw [e2] at h2; cases h2
  · obtain ⟨⟨ur, j, h1', h2⟩, h3⟩ := h
    rw [e1] at h1'
    have h1' : (prd tr (nI k)).map (fun j => (tr, j)) = some (ur, j) := h1'
    rw [e2] at h1'
    cases h1'
    exact ⟨h2, h3⟩
theorem n_open {d : Nat} (hX : XR E ow x h0 h1 fx ts H) (hV : SV h0 h1 fx ts) (hK : BL ts) (hd : d ≤ 3000) : Con E yX4_isOpen cX4_isOpen 2 (some FieldType.boolean) 10 1 6 [.ref x, .int (nI d)] H (o1 (some (.int (if opn h0 h1 d then 1 else 0))) (fun H' => H' = H)) := by
  have hi : inB (nI d) 0 3000 = true := inB_of (Nat.zero_le _) hd (by decide)
  refine (c_xopen E ow x h0 h1 fx ts (nI d) H hX hV hK).con (fun X h => ?_) (fun v H' h => ?_)
  · rw [hi] at h; exact absurd h.2 (by decide)
  · obtain ⟨⟨-, h2⟩, h3⟩ := h
    rw [nI_clamp (by omega)] at h2
    exact ⟨h2, h3⟩
theorem n_roll {d : Nat} (hX : XR E ow x h0 h1 fx ts H) (hV : SV h0 h1 fx ts) (hK : BL ts) (hd : d ≤ 3000) : Con E yX4_roll cX4_roll 2 (some FieldType.int) 10 1 6 [.ref x, .int (nI d)] H (o1 (some (.int (nI (rol h0 h1 d)))) (fun H' => H' = H)) := by
  have hi : inB (nI d) 0 3000 = true := inB_of (Nat.zero_le _) hd (by decide)
  refine (c_xroll E ow x h0 h1 fx ts (nI d) H hX hV hK).con (fun X h => ?_) (fun v H' h => ?_)
  · rw [hi] at h; exact absurd h.2 (by decide)
  · obtain ⟨⟨-, h2⟩, h3⟩ := h
    rw [nI_clamp (by omega)] at h2
    exact ⟨h2, h3⟩
theorem n_party {t : Nat} {tr : TR} {day : Int32} (hX : XR E ow x h0 h1 fx ts H) (hV : SV h0 h1 fx ts) (hK : BL ts) (ht : ts[t]? = some tr) (hd : inB day 0 3000 = true) : Con E yX4_partyOn cX4_partyOn 4 (some FieldType.int) 10 2 12 [.ref x, .int (nI t), .int day] H (o1 (some (.int (hldS tr.1 tr.2.2 day))) (fun H' => H' = H)) := by
  have h1' := lt_of_get ht
  have h2 := hV.tn
  have e1 : trd ts (nI t) = some tr := by rw [trd_nI (by omega)]; exact ht
  have hcd : cdPO ts (nI t) day = 0 := by unfold cdPO; rw [e1, hd]; rfl
  refine (c_xparty E ow x h0 h1 fx ts (nI t) day H hX hV hK).con (fun X h => h.1 hcd) (fun v H' h => ?_)
  obtain ⟨⟨ur, q1, -, q3⟩, h3⟩ := h
  cases e1.symm.trans q1
  exact ⟨q3, h3⟩
theorem n_days {pa d1 d2 : Int32} (hX : XR E ow x h0 h1 fx ts H) (hV : SV h0 h1 fx ts) (hK : BL ts) (hcd : cdSpan pa d1 d2 = 0) : Con E yX4_cashOfDays cX4_cashOfDays 7 (some FieldType.long) 10 3 18 [.ref x, .int pa, .int d1, .int d2] H (o1 (some (.long (sumS h0 h1 fx pa d1 d2 0 ts))) (fun H' => H' = H)) :=
  (c_xdays E ow x h0 h1 fx ts pa d1 d2 H hX hV hK).con (fun X h => h.1 hcd) (fun v H' h => ⟨h.1.2, h.2⟩)
theorem n_bytr {pa d1 d2 : Int32} (hX : XR E ow x h0 h1 fx ts H) (hV : SV h0 h1 fx ts) (hK : BL ts) (hcd : cdSpan pa d1 d2 = 0) : Con E yX4_cashByTrades cX4_cashByTrades 7 (some FieldType.long) 10 3 18 [.ref x, .int pa, .int d1, .int d2] H (o1 (some (.long (sumS h0 h1 fx pa d1 d2 0 ts))) (fun H' => H' = H)) :=
  (c_xbytr E ow x h0 h1 fx ts pa d1 d2 H hX hV hK).con (fun X h => h.1 hcd) (fun v H' h => ⟨h.1.2, h.2⟩)
theorem n_next {pa d : Int32} (hX : XR E ow x h0 h1 fx ts H) (hV : SV h0 h1 fx ts) (hK : BL ts) (hcd : cdCash pa d = 0) : Con E yX4_nextFlow cX4_nextFlow 6 (some FieldType.int) 10 2 12 [.ref x, .int pa, .int d] H (o1 (some (.int (nxT h0 h1 pa d (-1) ts))) (fun H' => H' = H)) :=
  (c_xnext E ow x h0 h1 fx ts pa d H hX hV hK).con (fun X h => h.1 hcd) (fun v H' h => ⟨h.1.2, h.2⟩)
theorem n_hol {town d : Int32} (hX : XR E ow x h0 h1 fx ts H) (hV : SV h0 h1 fx ts) (hK : BL ts) (hcd : cdHol h0 h1 town d = 0) : Con E yX4_holiday cX4_holiday 4 (some FieldType.int) 10 4 70 [.ref x, .int town, .int d] H (o1 (some (.int (nI ((if town = 0 then h0 else h1).length + 1)))) (fun H' => XOut E ow x (if town = 0 then h0 ++ [(d, town)] else h0) (if town = 0 then h1 else h1 ++ [(d, town)]) fx ts H H')) :=
  (c_xhol E ow x h0 h1 fx ts town d H hX hV hK).con (fun X h => h.1 hcd) (fun v H' h => ⟨h.1.2, h.2⟩)
theorem n_fix {d r : Int32} (hX : XR E ow x h0 h1 fx ts H) (hV : SV h0 h1 fx ts) (hK : BL ts) (hcd : cdFix fx d r = 0) : Con E yX4_fix cX4_fix 3 (some FieldType.int) 10 4 (30 + 2 * fx.length) [.ref x, .int d, .int r] H (o1 (some (.int (nI (dPut fx d r).length))) (fun H' => XOut E ow x h0 h1 (dPut fx d r) ts H H')) :=
  (c_xfix E ow x h0 h1 fx ts d r H hX hV hK).con (fun X h => h.1 hcd) (fun v H' h => ⟨h.1.2, h.2⟩)
theorem n_trd {pa lo py fi fs le pe : Int32} (hX : XR E ow x h0 h1 fx ts H) (hV : SV h0 h1 fx ts) (hK : BL ts) (hpy : py = 0 ∨ py = 1) (hcd : cdTrd ts pa lo fi fs le pe = 0) : Con E yX4_trade cX4_trade 9 (some FieldType.int) 10 14 110 [.ref x, .int pa, .int lo, .int py, .int fi, .int fs, .int le, .int pe] H (o1 (some (.int (nI ts.length))) (fun H' => XOut E ow x h0 h1 fx (ts ++ [(mkT pa lo py fi fs le pe, [], [])]) H H')) :=
  (c_xtrd E ow x h0 h1 fx ts pa lo py fi fs le pe H hX hV hK hpy).con (fun X h => h.1 hcd) (fun v H' h => ⟨h.1.2, h.2⟩)
theorem n_brk {t M : Nat} {tr : TR} {d lo : Int32} (hX : XR E ow x h0 h1 fx ts H) (hV : SV h0 h1 fx ts) (hK : BL ts) (hM : ∀ tr ∈ ts, tr.2.1.length ≤ M) (hM5 : M ≤ 5000) (ht : ts[t]? = some tr) (hcd : cdBrk ts (nI t) d lo = 0) : Con E yX4_breakPart cX4_breakPart 5 (some FieldType.int) 10 6 (60 + 2 * M) [.ref x, .int (nI t), .int d, .int lo] H (o1 (some (.int (nI (tr.2.1.length + 1)))) (fun H' => XOut E ow x h0 h1 fx (ts.set t (brT tr d lo)) H H')) := by
  have h1' := lt_of_get ht
  have h2 := hV.tn
  refine (c_xbrk E ow x h0 h1 fx ts (nI t) d lo M H hX hV hK hM hM5).con (fun X h => h.1 hcd) (fun v H' h => ?_)
  obtain ⟨ur, i, q1, q2, q3, q4, q5, q6, q7⟩ := h
  have e : t = i := nI_inj q2 (by omega) (by omega)
  subst e
  cases ht.symm.trans q4
  exact ⟨q6, q7⟩
theorem n_hnd {t : Nat} {tr : TR} {d pa : Int32} (hX : XR E ow x h0 h1 fx ts H) (hV : SV h0 h1 fx ts) (hK : BL ts) (ht : ts[t]? = some tr) (hcd : cdHnd ts (nI t) d pa = 0) : Con E yX4_handOver cX4_handOver 6 (some FieldType.int) 10 6 80 [.ref x, .int (nI t), .int d, .int pa] H (o1 (some (.int (hldS tr.1 tr.2.2 d))) (fun H' => XOut E ow x h0 h1 fx (ts.set t (tr.1, tr.2.1, tr.2.2 ++ [(d, pa)])) H H')) := by
  have h1' := lt_of_get ht
  have h2 := hV.tn
  refine (c_xhnd E ow x h0 h1 fx ts (nI t) d pa H hX hV hK).con (fun X h => h.1 hcd) (fun v H' h => ?_)
  obtain ⟨ur, i, q1, q2, q3, q4, q5, q6, q7⟩ := h
  have e : t = i := nI_inj q2 (by omega) (by omega)
  subst e
  cases ht.symm.trans q4
  exact ⟨q6, q7⟩
theorem n_press {d K KK : Nat} (hX : XR E ow x h0 h1 fx ts H) (hV : SV h0 h1 fx ts) (hK : BL ts) (hd : d ≤ 3000) (hK9 : ∀ tr ∈ ts, tr.2.1.length ≤ K) (hKK : K + (prs h0 h1 (nI d) ts).2.2.1 ≤ KK) (hKK5 : KK ≤ 5000) : Con E yX4_press cX4_press 5 (some FieldType.int) 10 (1 + 4 * (prs h0 h1 (nI d) ts).2.2.1) (6 + 2 * (2 + (2 * KK + 10)) * (prs h0 h1 (nI d) ts).2.2.1) [.ref x, .int (nI d)] H (o1 (some (.int (prs h0 h1 (nI d) ts).2.1)) (fun H' => XOut E ow x h0 h1 fx (prs h0 h1 (nI d) ts).1 H H')) := by
  have hi : inB (nI d) 0 3000 = true := inB_of (Nat.zero_le _) hd (by decide)
  refine (c_xpress E ow x h0 h1 fx ts (nI d) K KK H hX hV hK hK9 hKK hKK5).con (fun X h => ?_) (fun v H' h => ⟨h.1.2, h.2⟩)
  rw [hi] at h
  exact absurd h.2 (by decide)
end NX
end
section
section LAWR
variable {p : Program} {e : Env} {R : Room} {s : State} {m : MethodId} {args : Array Value} {below : List Frame} {meth : Method} {c : Code} {H H0 : Heap} {locs : List Loc} {cells slots : Nat} {Q : State → Prop}
variable {cc : ByteArray} {pc nL : Nat} {ls : Array Slot} {rest st0 : List Value} {E : ET} {own : String}
variable {idx k' mc' ms' n mL a ci N : Nat} {y : MethodName} {b : ByteArray} {ret : Option FieldType} {As : List Value} {v : Value} {fs : List Value} {T : u_T}
theorem cwVR {k' mc' ms' : Nat} {idx : Nat} {y : MethodName} {b : ByteArray} {mL : Nat} {ret : Option FieldType} {n : Nat} (hts : ∀ w ∈ Tw, w.before args s = true) (h : kwV own idx y b mL ret n) (hk : k' ≤ 12) : CallW room_1 s args own y.cls idx y b mL ret (wm y b mL ret) (rmk k' mc' ms') mc' ms' n := by
  obtain ⟨h1, h2, h3, h4, h5, h6, h7⟩ := h
  refine cwV n hts (fun w hw => ?_) rfl rfl rfl ⟨rfl, h6⟩ ⟨by show k' + 1 ≤ 13; omega, ?_⟩
  · simp only [wsV, List.cons_append, List.nil_append] at hw
    rcases List.mem_cons.mp hw with rfl | hw
    · exact good1 h1
    rcases List.mem_cons.mp hw with rfl | hw
    · exact good1 h2
    rcases List.mem_cons.mp hw with rfl | hw
    · exact good1 h3
    rcases List.mem_cons.mp hw with rfl | hw
    · exact good1 h4
    · exact wm_good h5 w hw
  · show 8 + (mL + 11) + 40 * k' ≤ 560
    omega
theorem cwIR {k' mc' ms' : Nat} {idx : Nat} {y : MethodName} {b : ByteArray} {mL : Nat} {n : Nat} (hts : ∀ w ∈ Tw, w.before args s = true) (h : kwI own idx y b mL n) (hk : k' ≤ 12) : CallB room_1 s args own idx y b mL none (wm y b mL none) (rmk k' mc' ms') mc' ms' n ∧ y.name = "<init>" ∧ (Cond.instanceMethod y).before args s = true := by
  obtain ⟨h1, h2, h4, h5, h6, h7, h8⟩ := h
  refine cwI n hts (wm_good h5) rfl rfl rfl (hts _ h4) (hts _ h1) (hts _ h2) h8 h6 ⟨by show k' + 1 ≤ 13; omega, ?_⟩
  show 8 + (mL + 11) + 40 * k' ≤ 560
  omega
theorem cwSR {k' mc' ms' : Nat} {idx : Nat} {y : MethodName} {b : ByteArray} {mL : Nat} {ret : Option FieldType} {n : Nat} (hts : ∀ w ∈ Tw, w.before args s = true) (h : kwS own idx y b mL ret n) (hk : k' ≤ 12) : CallB room_1 s args own idx y b mL ret (wm y b mL ret) (rmk k' mc' ms') mc' ms' n ∧ (Cond.static y).before args s = true := by
  obtain ⟨h1, h2, h4, h5, h6, h7⟩ := h
  refine va_cwS n hts (fun w hw => ?_) rfl rfl rfl h6 ⟨by show k' + 1 ≤ 13; omega, ?_⟩
  · simp only [va_wsS, List.cons_append, List.nil_append] at hw
    rcases List.mem_cons.mp hw with rfl | hw
    · exact good1 h1
    rcases List.mem_cons.mp hw with rfl | hw
    · exact good1 h2
    rcases List.mem_cons.mp hw with rfl | hw
    · exact good1 h4
    · exact wm_good h5 w hw
  · show 8 + (mL + 11) + 40 * k' ≤ 560
    omega
theorem lpV (hx : p.tables.exec = Jvm.exec) (hb : c.code = cc) (hml : c.maxLocals = nL) (hts : ∀ w ∈ Tw, w.before args s = true) (hown : s.vm.findClass own = some m.cls) (hE : EV E s H) (kw : kwV own idx y b mL ret n) (hM : PCon E y b mL ret k' (.ref a :: As) H (some v)) (hO : OB E ci fs a H) (hc : vwCl[ci]? = some (y.cls, T, N)) (hk : k' ≤ 12) (hn : As.length = n) (hl : ls.size = nL) (hst : st0 = As.reverse ++ .ref a :: rest) (hW : (rest.map fun v => v.category).sum ≤ 8) (hcs : cells ≤ 1173600) (hss : slots ≤ 5581029) (hdg : decode cc pc = .ok (.invokevirtual idx, 3))
    (kk : W p (eL E) e room_1 s m args below meth c H locs cells slots Q (F0 m (pc + 3) ls (v :: rest))) : W p (eL E) e room_1 s m args below meth c H locs cells slots Q (F0 m pc ls st0) := by
  refine pk_go (g := F0 m pc ls st0) (va_runV (As := As) (rest := rest) ⟨hx, hb, hml, hown, hts⟩ hM (cwVR hts kw hk) ⟨PC.blind, recv9 hE hO hc, fun U hU hW => ⟨rfl, hU, by rw [hU]; exact hE.warm hW⟩⟩ rfl hn hl hst (lv_room hW) hdg ⟨hcs, hss⟩) kk
theorem lpS (hx : p.tables.exec = Jvm.exec) (hb : c.code = cc) (hml : c.maxLocals = nL) (hts : ∀ w ∈ Tw, w.before args s = true) (hown : s.vm.findClass own = some m.cls) (hE : EV E s H) (kw : kwS own idx y b mL ret n) (hM : PCon E y b mL ret k' As H (some v)) (hk : k' ≤ 12) (hn : As.length = n) (hl : ls.size = nL) (hst : st0 = As.reverse ++ rest) (hW : (rest.map fun v => v.category).sum ≤ 8) (hcs : cells ≤ 1173600) (hss : slots ≤ 5581029) (hdg : decode cc pc = .ok (.invokestatic idx, 3))
    (kk : W p (eL E) e room_1 s m args below meth c H locs cells slots Q (F0 m (pc + 3) ls (v :: rest))) : W p (eL E) e room_1 s m args below meth c H locs cells slots Q (F0 m pc ls st0) := by
  refine pk_go (g := F0 m pc ls st0) (va_runS (As := As) (rest := rest) ⟨hx, hb, hml, hown, hts⟩ hM (cwSR hts kw hk) ⟨PC.blind, fun U hU hW => ⟨rfl, hU, by rw [hU]; exact hE.warm hW⟩⟩ rfl hn hl hst (lv_room hW) hdg ⟨hcs, hss⟩) kk
theorem lgV {r : Value} {G : Heap → Prop} (hx : p.tables.exec = Jvm.exec) (hb : c.code = cc) (hml : c.maxLocals = nL) (hts : ∀ w ∈ Tw, w.before args s = true) (hown : s.vm.findClass own = some m.cls) (hB : eB E ≤ s.heap.size) (hE : EV E s H) (hS : va_S (fr E) s.heap H locs) (kw : kwV own idx y b mL ret n) (hM : Con E y b mL ret k' mc' ms' (.ref a :: As) H (o1 (some r) G)) (hO : OB E ci fs a H) (hc : vwCl[ci]? = some (y.cls, T, N)) (hk : k' ≤ 12) (hn : As.length = n) (hl : ls.size = nL) (hst : st0 = As.reverse ++ .ref a :: rest) (hW : (rest.map fun v => v.category).sum ≤ 8) (hcs : cells + mc' ≤ 1173600) (hss : slots + ms' ≤ 5581029) (hdg : decode cc pc = .ok (.invokevirtual idx, 3))
    (kk : ∀ (H1 : Heap) (locs1 : List Loc), G H1 → H.size ≤ H1.size → EV E s H1 → va_S (fr E) s.heap H1 locs1 → W p (eL E) e room_1 s m args below meth c H1 locs1 (cells + mc') (slots + ms') Q (F0 m (pc + 3) ls (r :: rest))) : W p (eL E) e room_1 s m args below meth c H locs cells slots Q (F0 m pc ls st0) :=
  g_go hB hE hS (va_runV (g := F0 m pc ls st0) (As := As) (rest := rest) ⟨hx, hb, hml, hown, hts⟩ hM (cwVR hts kw hk) ⟨PC.blind, recv9 hE hO hc, fun U hU hW => ⟨rfl, hU, by rw [hU]; exact hE.warm hW⟩⟩ rfl hn hl hst (lv_room hW) hdg ⟨hcs, hss⟩) kk
theorem lgVU {G : Heap → Prop} (hx : p.tables.exec = Jvm.exec) (hb : c.code = cc) (hml : c.maxLocals = nL) (hts : ∀ w ∈ Tw, w.before args s = true) (hown : s.vm.findClass own = some m.cls) (hB : eB E ≤ s.heap.size) (hE : EV E s H) (hS : va_S (fr E) s.heap H locs) (kw : kwV own idx y b mL ret n) (hM : Con E y b mL ret k' mc' ms' (.ref a :: As) H (o1 none G)) (hO : OB E ci fs a H) (hc : vwCl[ci]? = some (y.cls, T, N)) (hk : k' ≤ 12) (hn : As.length = n) (hl : ls.size = nL) (hst : st0 = As.reverse ++ .ref a :: rest) (hW : (rest.map fun v => v.category).sum ≤ 8) (hcs : cells + mc' ≤ 1173600) (hss : slots + ms' ≤ 5581029) (hdg : decode cc pc = .ok (.invokevirtual idx, 3))
    (kk : ∀ (H1 : Heap) (locs1 : List Loc), G H1 → H.size ≤ H1.size → EV E s H1 → va_S (fr E) s.heap H1 locs1 → W p (eL E) e room_1 s m args below meth c H1 locs1 (cells + mc') (slots + ms') Q (F0 m (pc + 3) ls rest)) : W p (eL E) e room_1 s m args below meth c H locs cells slots Q (F0 m pc ls st0) :=
  g_go hB hE hS (va_runV (g := F0 m pc ls st0) (As := As) (rest := rest) ⟨hx, hb, hml, hown, hts⟩ hM (cwVR hts kw hk) ⟨PC.blind, recv9 hE hO hc, fun U hU hW => ⟨rfl, hU, by rw [hU]; exact hE.warm hW⟩⟩ rfl hn hl hst (lv_room hW) hdg ⟨hcs, hss⟩) kk
theorem lgI {G : Heap → Prop} (hx : p.tables.exec = Jvm.exec) (hb : c.code = cc) (hml : c.maxLocals = nL) (hts : ∀ w ∈ Tw, w.before args s = true) (hown : s.vm.findClass own = some m.cls) (hB : eB E ≤ s.heap.size) (hE : EV E s H) (hS : va_S (fr E) s.heap H locs) (kw : kwI own idx y b mL n) (hM : Con E y b mL none k' mc' ms' (.ref a :: As) H (o1 none G)) (hk : k' ≤ 12) (hn : As.length = n) (hl : ls.size = nL) (hst : st0 = As.reverse ++ .ref a :: rest) (hW : (rest.map fun v => v.category).sum ≤ 8) (hcs : cells + mc' ≤ 1173600) (hss : slots + ms' ≤ 5581029) (hdg : decode cc pc = .ok (.invokespecial idx, 3))
    (kk : ∀ (H1 : Heap) (locs1 : List Loc), G H1 → H.size ≤ H1.size → EV E s H1 → va_S (fr E) s.heap H1 locs1 → W p (eL E) e room_1 s m args below meth c H1 locs1 (cells + mc') (slots + ms') Q (F0 m (pc + 3) ls rest)) : W p (eL E) e room_1 s m args below meth c H locs cells slots Q (F0 m pc ls st0) :=
  g_go hB hE hS (va_runI (g := F0 m pc ls st0) (As := As) (rest := rest) ⟨hx, hb, hml, hown, hts⟩ hM (cwIR hts kw hk) ⟨PC.blind, fun U hU hW => ⟨rfl, hU, by rw [hU]; exact hE.warm hW⟩⟩ rfl hn hl hst (lv_room hW) hdg ⟨hcs, hss⟩) kk
theorem lgS {r : Value} {G : Heap → Prop} (hx : p.tables.exec = Jvm.exec) (hb : c.code = cc) (hml : c.maxLocals = nL) (hts : ∀ w ∈ Tw, w.before args s = true) (hown : s.vm.findClass own = some m.cls) (hB : eB E ≤ s.heap.size) (hE : EV E s H) (hS : va_S (fr E) s.heap H locs) (kw : kwS own idx y b mL ret n) (hM : Con E y b mL ret k' mc' ms' As H (o1 (some r) G)) (hk : k' ≤ 12) (hn : As.length = n) (hl : ls.size = nL) (hst : st0 = As.reverse ++ rest) (hW : (rest.map fun v => v.category).sum ≤ 8) (hcs : cells + mc' ≤ 1173600) (hss : slots + ms' ≤ 5581029) (hdg : decode cc pc = .ok (.invokestatic idx, 3))
    (kk : ∀ (H1 : Heap) (locs1 : List Loc), G H1 → H.size ≤ H1.size → EV E s H1 → va_S (fr E) s.heap H1 locs1 → W p (eL E) e room_1 s m args below meth c H1 locs1 (cells + mc') (slots + ms') Q (F0 m (pc + 3) ls (r :: rest))) : W p (eL E) e room_1 s m args below meth c H locs cells slots Q (F0 m pc ls st0) :=
  g_go hB hE hS (va_runS (g := F0 m pc ls st0) (As := As) (rest := rest) ⟨hx, hb, hml, hown, hts⟩ hM (cwSR hts kw hk) ⟨PC.blind, fun U hU hW => ⟨rfl, hU, by rw [hU]; exact hE.warm hW⟩⟩ rfl hn hl hst (lv_room hW) hdg ⟨hcs, hss⟩) kk
theorem lnw {C : String} {ty0 : Nat → FieldType} (hx : p.tables.exec = Jvm.exec) (hb : c.code = cc) (hts : ∀ w ∈ Tw, w.before args s = true) (hown : s.vm.findClass own = some m.cls) (hE : EV E s H) (hS : va_S (fr E) s.heap H locs) (hk : NK own idx C T N ci ty0) (hfs : ∀ j, j < N → defaultValue (ty0 j) = vp_V fs j) (hc : cells + 1 ≤ 1173600) (hs : slots + N ≤ 5581029) (hdg : decode cc pc = .ok (.new idx, 3))
    (kk : ∀ (a : Nat) (H1 : Heap), a = H.size → OB E ci fs a H1 → H1.size = H.size + 1 → (∀ q : Nat, q < H.size → H1[q]? = H[q]?) → EV E s H1 → va_S (fr E) s.heap H1 locs → eB E ≤ a → W p (eL E) e room_1 s m args below meth c H1 locs (cells + 1) (slots + N) Q (F0 m (pc + 3) ls (.ref a :: rest))) : W p (eL E) e room_1 s m args below meth c H locs cells slots Q (F0 m pc ls rest) := by
  obtain ⟨h1, h2, h3, h4, h5, h6⟩ := hk
  have hKn := hE.K.1 ci _ h2
  refine W.newcK hx hb hown (hts _ h3) (hts _ h4) (hts _ h5) rfl hdg hc hs hKn.2.1 rfl fun H1 kC hkC e1 z1 o1 => ?_
  exact kk H.size H1 rfl (one9 ⟨_, h2, (u_born ty0 hts h1 hKn hkC e1 h6).to hfs⟩) z1 o1 (EVn hE (by omega) o1) (SFn hS (by omega) o1) hE.2.1
theorem lnaI {z : Int32} {N' : Nat} (hx : p.tables.exec = Jvm.exec) (hb : c.code = cc) (hts : ∀ w ∈ Tw, w.before args s = true) (hE : EV E s H) (hS : va_S (fr E) s.heap H locs) (hw : Cond.arrayClass .int ∈ Tw) (hz : z = nI N') (hN : N' ≤ 100000) (hc : cells + 1 ≤ 1173600) (hs : slots + N' ≤ 5581029) (hdg : decode cc pc = .ok (.newarray .int, 2))
    (kk : ∀ (a : Nat) (H1 : Heap), a = H.size → IA E N' (fun _ => 0) a H1 → H1.size = H.size + 1 → (∀ q : Nat, q < H.size → H1[q]? = H[q]?) → EV E s H1 → va_S (fr E) s.heap H1 locs → eB E ≤ a → W p (eL E) e room_1 s m args below meth c H1 locs (cells + 1) (slots + N') Q (F0 m (pc + 2) ls (.ref a :: rest))) : W p (eL E) e room_1 s m args below meth c H locs cells slots Q (F0 m pc ls (.int z :: rest)) := by
  subst hz
  refine va_newaK hx hb (atype := .int) (hts _ hw) rfl hdg rfl (nI_pos (by omega)) (nI_clamp (by omega)) (by show N' * 4 ≤ _; omega) hc hs rfl fun H1 cA e1 z1 o1 hAr hNm => ?_
  have hcA : cA = eA E 0 := Option.some.inj (hNm.symm.trans (hE.K.2 0 _ rfl).2)
  subst hcA
  exact kk H.size H1 rfl (one9 e1) z1 o1 (EVn hE (by omega) o1) (SFn hS (by omega) o1) hE.2.1
end LAWR
end
section
/-! low and cell -/
theorem and_max (v : Int32) : ¬ v &&& 2147483647 < 0 := by
  rw [Int32.lt_iff_toInt_lt]
  have a : ∀ y : Int32, y.toInt < (0 : Int32).toInt ↔ y.toBitVec.msb = true := fun y => by
    rw [BitVec.msb_eq_toInt]
    simp
  rw [a]
  have e : (v &&& 2147483647).toBitVec = v.toBitVec &&& (2147483647 : Int32).toBitVec := rfl
  rw [e, BitVec.msb_and]
  have e2 : (2147483647 : Int32).toBitVec.msb = false := by decide
  rw [e2]
  simp
def lw (v : Int32) (k : Nat) : Nat := (v &&& 2147483647).toNatClampNeg % k
theorem lw_lt {v : Int32} {k : Nat} (h : 0 < k) : lw v k < k := Nat.mod_lt _ h
theorem lw_eq {v : Int32} {k : Nat} (h : 0 < k) (hk : k < 2 ^ 31) : (v &&& 2147483647) - (v &&& 2147483647) / nI k * nI k = nI (lw v k) := by
  obtain ⟨j, hj, e⟩ := nI_of (and_max v)
  unfold lw
  rw [e, nI_clamp hj]
  exact pk_rem hj h hk
set_option maxRecDepth 100000 in
set_option maxHeartbeats 4000000 in
/-- low -/
theorem c_low (E : ET) (v n : Int32) (k : Nat) (H : Heap) (hn : n = nI k) (h0 : 0 < k) (hk : k < 2 ^ 31) : PCon E yL_low cL_low 2 (some FieldType.int) 1 [.int v, .int n] H (some (.int (nI (lw v k)))) := by
  subst hn
  refine PCon.of (C := RL) rfl (by decide +kernel) (Nat.le_of_ble_eq_true rfl) ?_
  intro p e s m below meth co ls hx hb hr hlk hml hown hts hE hH hl
  have hl : lv_has ls 2 [(0, .int v), (1, .int (nI k))] := hl
  refine lv_iload_n hx hb dL_low_0 rfl (lv_at hl 0 rfl) ?_
  refine lv_ldc (v := 2147483647) hx hb hown (hts _ qw2_222) dL_low_1 ?_
  refine lv_iand hx hb dL_low_3 ?_
  refine lv_iload_n hx hb dL_low_4 rfl (lv_at hl 1 rfl) ?_
  refine lv_irem hx hb dL_low_5 (nI_ne0 h0 hk) ?_
  exact pI hx hb hr hlk hH (lw_eq h0 hk) dL_low_6
/-- a cell of the script, or what stands for it behind its end -/
def clS (xs : Nat → Int32) (L k : Nat) : Int32 := if k < L then xs k else 7919 * (nI k + 3) * (nI k + 11)
def PX (E : ET) (b L : Nat) (xs : Nat → Int32) (av : List Value) (H : Heap) : Array Value → State → Prop := fun a U => a = av.toArray ∧ U.heap = H ∧ EV E U U.heap ∧ va_X b L xs U U.heap
theorem PX.blind {E : ET} {b L : Nat} {xs : Nat → Int32} {av : List Value} {H : Heap} : FrameBlind (PX E b L xs av H) := fun a U g mk q => ⟨q.1, q.2.1, EV.same (u := U) (U := U.calling g mk a) rfl q.2.2.1, va_X.moved (u := U) (U := U.calling g mk a) (Vm.Alike.refl _) q.2.2.2⟩
set_option maxRecDepth 100000 in
set_option maxHeartbeats 4000000 in
/-- cell -/
theorem c_cell (E : ET) (b L : Nat) (xs : Nat → Int32) (k : Nat) (n : Int32) (H : Heap) (hn : n = nI k) (hk : k < 2 ^ 31) (hL : L ≤ 260) : Met (eL E) yL_cell (wm yL_cell cL_cell 2 (some FieldType.int)) (rmk 1 0 0) (PX E b L xs [.ref b, .int n] H) (PQ (some (.int (clS xs L k)))) 0 0 (fun _ => False) := by
  subst hn
  refine Met.ofW (cc := cL_cell) (maxL := 2) (ret := some FieldType.int) (by decide +kernel) rfl ?_
  intro p e s m args below meth co s₁ B hml hv
  obtain ⟨rfl, rfl, hE, hX⟩ := hv
  have hl := lv_entry ([.ref b, .int (nI k)] : List Value) (n := 2) (Nat.le_of_ble_eq_true rfl)
  rw [lg_entry_eq]
  generalize ((lg_sl ([.ref b, .int (nI k)] : List Value) ++ List.replicate (2 - (lg_sl ([.ref b, .int (nI k)] : List Value)).length) Slot.unset).toArray) = ls at hl ⊢
  have hl : lv_has ls 2 [(0, .ref b), (1, .int (nI k))] := hl
  have hx := B.exec
  have hb : co.code = cL_cell := B.bytes
  have hS : va_S (fun q => s.heap.size ≤ q) s.heap s.heap [] := va_S.rf
  have hbl : b < s.heap.size := by
    obtain ⟨scr, h1, -⟩ := hX
    exact (Array.getElem?_eq_some_iff.mp h1).1
  have hbA : ¬ s.heap.size ≤ b := Nat.not_le.mpr hbl
  refine lv_iload_n hx hb dL_cell_0 rfl (lv_at hl 1 rfl) ?_
  refine lv_aload_n hx hb dL_cell_1 rfl (lv_at hl 0 rfl) ?_
  refine va_slen hx hb hX hbl hbA hS dL_cell_2 ?_
  show W _ _ _ _ _ _ _ _ _ _ _ _ _ _ _ (F0 _ _ _ [.int (nI L), .int (nI k)])
  refine lv_icmp_ge (tgt := 12) hx hb dL_cell_3 (by decide) (fun c => ?_) (fun c => ?_)
  · have hge : ¬ k < L := fun q => nI_ge q (by omega) c
    refine lv_sipush (v := 7919) hx hb dL_cell_12 (by decide) ?_
    refine lv_iload_n hx hb dL_cell_15 rfl (lv_at hl 1 rfl) ?_
    refine lv_iconst (v := 3) hx hb dL_cell_16 (by decide) ?_
    refine lv_iadd hx hb dL_cell_17 ?_
    refine lv_imul hx hb dL_cell_18 ?_
    refine lv_iload_n hx hb dL_cell_19 rfl (lv_at hl 1 rfl) ?_
    refine lv_bipush (v := 11) hx hb dL_cell_20 (by decide) ?_
    refine lv_iadd hx hb dL_cell_22 ?_
    refine lv_imul hx hb dL_cell_23 ?_
    exact pI hx hb B.returns B.notSynchronized rfl (by unfold clS; rw [if_neg hge]) dL_cell_24
  · have hlt : k < L := by
      rcases Nat.lt_or_ge k L with q | q
      · exact q
      · exact absurd (nI_le q hk) c
    refine lv_aload_n hx hb dL_cell_6 rfl (lv_at hl 0 rfl) ?_
    refine lv_iload_n hx hb dL_cell_7 rfl (lv_at hl 1 rfl) ?_
    refine va_sld hx hb hX hbl hbA hS (vp_in_nI hlt (by omega)) dL_cell_8 ?_
    rw [nI_clamp hk]
    refine lv_goto (tgt := 24) hx hb dL_cell_9 (by decide) ?_
    exact pI hx hb B.returns B.notSynchronized rfl (by unfold clS; rw [if_pos hlt]) dL_cell_24
section LCL
variable {p : Program} {e : Env} {s : State} {m : MethodId} {args : Array Value} {below : List Frame} {meth : Method} {c : Code} {H : Heap} {locs : List Loc} {cells slots : Nat} {Q : State → Prop}
variable {cc : ByteArray} {pc nL : Nat} {ls : Array Slot} {rest : List Value} {E : ET}
/-- the law's call of cell -/
theorem lcl {b L k : Nat} {xs : Nat → Int32} {n : Int32} (hx : p.tables.exec = Jvm.exec) (hb : c.code = cc) (hml : c.maxLocals = nL) (hts : ∀ w ∈ Tw, w.before args s = true) (hown : s.vm.findClass RL = some m.cls) (hE : EV E s H) (hX : va_X b L xs s H) (hn : n = nI k) (hk : k < 2 ^ 31) (hL : L ≤ 260) (hl : ls.size = nL) (hW : (rest.map fun v => v.category).sum ≤ 8) (hcs : cells ≤ 1173600) (hss : slots ≤ 5581029) (hdg : decode cc pc = .ok (.invokestatic 46, 3))
    (kk : W p (eL E) e room_1 s m args below meth c H locs cells slots Q (F0 m (pc + 3) ls (.int (clS xs L k) :: rest))) : W p (eL E) e room_1 s m args below meth c H locs cells slots Q (F0 m pc ls (.int n :: .ref b :: rest)) := by
  refine pk_go (g := F0 m pc ls (.int n :: .ref b :: rest)) (va_runS (As := [.ref b, .int n]) (rest := rest) ⟨hx, hb, hml, hown, hts⟩ (c_cell E b L xs k n H hn hk hL) (cwSR hts kwL_46 (by decide)) ⟨PX.blind, fun U hU hW => ⟨rfl, hU, by rw [hU]; exact hE.warm hW, by rw [hU]; exact va_X.moved hW.alike hX⟩⟩ rfl rfl hl rfl (lv_room hW) hdg ⟨hcs, hss⟩) kk
end LCL
end
section
/-! breaks, isCash -/
theorem span_ok {pa a b : Nat} (hp : pa ≤ 3) (h1 : a ≤ b) (h2 : b ≤ a + 400) (h3 : b ≤ 3100) : cdSpan (nI pa) (nI a) (nI b) = 0 := by
  have e1 : inB (nI pa) 0 3 = true := inB_of (a := 0) (b := 3) (Nat.zero_le _) hp (by decide)
  have e2 : inB (nI a) 0 3100 = true := inB_of (a := 0) (b := 3100) (Nat.zero_le _) (by omega) (by decide)
  have e3 : inB (nI b) (nI a) (if nI a + 400 < 3100 then nI a + 400 else 3100) = true := by
    have e4 : nI a + 400 = nI (a + 400) := nI_add a 400
    rw [e4]
    by_cases c : nI (a + 400) < 3100
    · rw [if_pos c]; exact inB_of h1 h2 (by omega)
    · rw [if_neg c]; exact inB_of (b := 3100) h1 h3 (by decide)
  unfold cdSpan
  rw [if_neg (by rw [e1]; decide), if_pos ⟨e2, e3⟩]
/-- the sums of the first i parties -/
def allS (h0 h1 fx : Dy) (d1 d2 : Int32) (ts : List TR) : Nat → Int64
  | 0 => 0
  | i + 1 => allS h0 h1 fx d1 d2 ts i + sumS h0 h1 fx (nI i) d1 d2 0 ts
theorem allS_4 {h0 h1 fx : Dy} {d1 d2 : Int32} {ts : List TR} (h : ∀ tr ∈ ts, HV tr) : allS h0 h1 fx d1 d2 ts 4 = pdL h0 h1 fx d1 d2 ts := by
  show 0 + sumS h0 h1 fx 0 d1 d2 0 ts + sumS h0 h1 fx 1 d1 d2 0 ts + sumS h0 h1 fx 2 d1 d2 0 ts + sumS h0 h1 fx 3 d1 d2 0 ts = _
  rw [Int64.zero_add]
  exact cash4 ts h
theorem pdS_in {T : Nat → Int32} {bs : Dy} {bf : Nat → Int32} {fx : Dy} {d1 d2 : Int32} {k : Nat} (f : Int64) (h1 : ¬ bf (k + 1) < d1) (h2 : ¬ d2 < bf (k + 1)) : f + pdS T bs bf fx d1 d2 k + flwS T bs bf fx k = f + pdS T bs bf fx d1 d2 (k + 1) := by
  show _ = f + (if d1 ≤ bf (k + 1) ∧ bf (k + 1) ≤ d2 then pdS T bs bf fx d1 d2 k + flwS T bs bf fx k else pdS T bs bf fx d1 d2 k)
  rw [if_pos ⟨Int32.not_lt.mp h1, Int32.not_lt.mp h2⟩, Int64.add_assoc]
theorem pdS_out {T : Nat → Int32} {bs : Dy} {bf : Nat → Int32} {fx : Dy} {d1 d2 : Int32} {k : Nat} (f : Int64) (h : bf (k + 1) < d1 ∨ d2 < bf (k + 1)) : f + pdS T bs bf fx d1 d2 k + 0 = f + pdS T bs bf fx d1 d2 (k + 1) := by
  show _ = f + (if d1 ≤ bf (k + 1) ∧ bf (k + 1) ≤ d2 then pdS T bs bf fx d1 d2 k + flwS T bs bf fx k else pdS T bs bf fx d1 d2 k)
  rw [if_neg (fun q => h.elim (fun r => absurd r (Int32.not_lt.mpr q.1)) (fun r => absurd r (Int32.not_lt.mpr q.2))), Int64.add_zero]
theorem i32_gt {a b : Int32} (h : a > b) : b < a := h
theorem XR.ob {E : ET} {ow : Nat → Nat × Nat} {x : Nat} {h0 h1 fx : Dy} {ts : List TR} {H : Heap} (h : XR E ow x h0 h1 fx ts H) : ∃ fs, OB E 5 fs x H := ⟨_, h.choose_spec.choose_spec.choose_spec.choose_spec.1⟩
theorem HV.in {tr : TR} (h : HV tr) (day : Int32) : inB (hldS tr.1 tr.2.2 day) 0 3 = true := by
  rcases h.p day with e | e | e | e <;> rw [e] <;> decide
set_option maxRecDepth 100000 in
set_option maxHeartbeats 4000000 in
/-- breaks -/
theorem c_breaks (E : ET) (ow : Nat → Nat × Nat) (x : Nat) (h0 h1 fx : Dy) (ts : List TR) (t M had : Nat) (tr : TR) (d lo : Int32) (H : Heap) (hX : XR E ow x h0 h1 fx ts H) (hV : SV h0 h1 fx ts) (hK : BL ts) (hM : ∀ tr ∈ ts, tr.2.1.length ≤ M) (hM5 : M ≤ 4000) (ht : ts[t]? = some tr) (hcd : cdBrk ts (nI t) d lo = 0) (hd : d ≤ bfC h0 h1 tr.1 (np tr - 1)) : Con E yL_breaks cL_breaks 7 (some FieldType.boolean) 11 8 (80 + 2 * M) [.ref x, .int (nI t), .int d, .int lo, .int (lotS tr.1 tr.2.1 (bfC h0 h1 tr.1) (np tr - 1)), .int (nI (np tr))] H (o1 (some (.int 1)) (fun H' => XOut E ow x h0 h1 fx (ts.set t (brT tr d lo)) H H')) := by
  refine Con.of (C := RL) rfl (by decide +kernel) (Nat.le_of_ble_eq_true rfl) ?_
  intro p e s m below meth co ls hx hb hr hlk hml hown hts hin hE hH hS hl
  have hl : lv_has ls 7 [(0, .ref x), (1, .int (nI t)), (2, .int d), (3, .int lo), (4, .int (lotS tr.1 tr.2.1 (bfC h0 h1 tr.1) (np tr - 1))), (5, .int (nI (np tr)))] := hl
  have hB : eB E ≤ s.heap.size := by rw [hH]; exact hE.2.1
  obtain ⟨fs, hO⟩ := hX.ob
  have hlt := lt_of_get ht
  have htn := hV.tn
  obtain ⟨n6, n1, n10⟩ := (hV.tv ht).n
  refine lv_aload_n hx hb dL_breaks_0 rfl (lv_at hl 0 rfl) ?_
  refine lv_iload_n hx hb dL_breaks_1 rfl (lv_at hl 1 rfl) ?_
  refine lv_iload_n hx hb dL_breaks_2 rfl (lv_at hl 2 rfl) ?_
  refine lv_iload_n hx hb dL_breaks_3 rfl (lv_at hl 3 rfl) ?_
  refine gV hx hb hml hts hown hB hE hS kwL_87 (n_brk hX hV hK hM (by omega) ht hcd) hO rfl (Nat.le_of_ble_eq_true rfl) rfl hl.1 rfl (Nat.le_of_ble_eq_true rfl) (by omega) (by omega) dL_breaks_4 (fun H1 L1 hG hz1 hE hS => ?_)
  obtain ⟨hVn, -⟩ := sv_brk hV rfl ht hcd
  have hXo := hG
  obtain ⟨ow2, e1, e2, hX2, hF2⟩ := hG
  have hKn : BL (ts.set t (brT tr d lo)) := fun y hy => by
    rcases List.mem_or_eq_of_mem_set hy with hy | e9
    · exact hK y hy
    · rw [e9]; have := hM tr (List.mem_of_getElem? ht); show (tr.2.1 ++ [(d, lo)]).length ≤ 5000; rw [List.length_append]; show tr.2.1.length + 1 ≤ 5000; omega
  have htn2 : (ts.set t (brT tr d lo))[t]? = some (brT tr d lo) := List.getElem?_set_self hlt
  obtain ⟨fs2, hO2⟩ := hX2.ob
  have hMt := hM tr (List.mem_of_getElem? ht)
  refine lv_istore (lv' := [(6, .int (nI (tr.2.1.length + 1))), (0, .ref x), (1, .int (nI t)), (2, .int d), (3, .int lo), (4, .int (lotS tr.1 tr.2.1 (bfC h0 h1 tr.1) (np tr - 1))), (5, .int (nI (np tr)))]) hx hb dL_breaks_7 hl (by decide) rfl (fun ls hl => ?_)
  refine lv_iload hx hb dL_breaks_9 (lv_at hl 0 rfl) ?_
  refine lv_iconst (v := 1) hx hb dL_breaks_11 (by decide) ?_
  refine lv_icmp_lt (tgt := 35) hx hb dL_breaks_12 (by decide) (fun c9 => ?_) (fun c9 => ?_)
  · exact absurd c9 (nI_nlt (a := tr.2.1.length + 1) (b := 1) (by omega) (by omega))
  refine lv_aload_n hx hb dL_breaks_15 rfl (lv_at hl 1 rfl) ?_
  refine lv_iload_n hx hb dL_breaks_16 rfl (lv_at hl 2 rfl) ?_
  refine lv_iload hx hb dL_breaks_17 (lv_at hl 6 rfl) ?_
  refine lv_iconst (v := 1) hx hb dL_breaks_19 (by decide) ?_
  refine lv_isub hx hb dL_breaks_20 ?_
  rw [show nI (np tr) - 1 = nI (np tr - 1) from nI_sub (b := 1) n1]
  refine gV hx hb hml hts hown hB hE hS kwL_39 (n_lots hX2 hVn hKn htn2 (k := np tr - 1) (by show np tr - 1 < np tr; omega)) hO2 rfl (Nat.le_of_ble_eq_true rfl) rfl hl.1 rfl (Nat.le_of_ble_eq_true rfl) (by omega) (by omega) dL_breaks_21 (fun H2 L2 hG hz2 hE hS => ?_)
  have hG := hG.symm
  subst hG
  refine lv_iload hx hb dL_breaks_24 (lv_at hl 5 rfl) ?_
  refine lv_iload_n hx hb dL_breaks_26 rfl (lv_at hl 4 rfl) ?_
  refine lv_isub hx hb dL_breaks_27 ?_
  refine lv_icmp_ne (tgt := 35) hx hb dL_breaks_28 (by decide) (fun c8 => ?_) (fun c8 => ?_)
  · exact absurd (by show lotS tr.1 (tr.2.1 ++ [(d, lo)]) (bfC h0 h1 tr.1) (np tr - 1) = _; rw [lot_br, if_pos hd]) c8
  refine lv_iconst (v := 1) hx hb dL_breaks_31 (by decide) ?_
  refine lv_goto (tgt := 36) hx hb dL_breaks_32 (by decide) ?_
  exact cZ hx hb hr hlk hB hS (by omega) (by omega) (Or.inr rfl) (⟨rfl, hXo⟩) dL_breaks_36

set_option maxRecDepth 100000 in
set_option maxHeartbeats 4000000 in
/-- isCash -/
theorem c_isCash (E : ET) (ow : Nat → Nat × Nat) (x : Nat) (h0 h1 fx : Dy) (ts : List TR) (pe a b : Nat) (pf : Nat → Int32) (H : Heap) (hX : XR E ow x h0 h1 fx ts H) (hV : SV h0 h1 fx ts) (hK : BL ts) (hHV : ∀ tr ∈ ts, HV tr) (hA : IA E 10 pf pe H) (hpf : ∀ t tr, ts[t]? = some tr → pf t = nI (np tr)) (hab : a ≤ b) (hb4 : b ≤ a + 400) (hb3 : b ≤ 3000) : Con E yL_isCash cL_isCash 12 (some FieldType.boolean) 11 900 5400 [.ref x, .ref pe, .int (nI a), .int (nI b)] H (o1 (some (.int 1)) (fun H' => H' = H)) := by
  refine Con.of (C := RL) rfl (by decide +kernel) (Nat.le_of_ble_eq_true rfl) ?_
  intro p e s m below meth co ls hx hb hr hlk hml hown hts hin hE hH hS hl
  have hl : lv_has ls 12 [(0, .ref x), (1, .ref pe), (2, .int (nI a)), (3, .int (nI b))] := hl
  have hB : eB E ≤ s.heap.size := by rw [hH]; exact hE.2.1
  obtain ⟨fs, hO⟩ := hX.ob
  have htn := hV.tn
  refine lv_lconst (v := 0) hx hb dL_isCash_0 (by decide) ?_
  refine lv_lstore (lv' := [(4, .long 0), (0, .ref x), (1, .ref pe), (2, .int (nI a)), (3, .int (nI b))]) hx hb dL_isCash_1 hl (by decide) rfl (fun ls hl => ?_)
  refine lv_lconst (v := 0) hx hb dL_isCash_3 (by decide) ?_
  refine lv_lstore (lv' := [(6, .long 0), (4, .long 0), (0, .ref x), (1, .ref pe), (2, .int (nI a)), (3, .int (nI b))]) hx hb dL_isCash_4 hl (by decide) rfl (fun ls hl => ?_)
  refine lv_iconst (v := 1) hx hb dL_isCash_6 (by decide) ?_
  refine lv_istore (lv' := [(8, .int 1), (6, .long 0), (4, .long 0), (0, .ref x), (1, .ref pe), (2, .int (nI a)), (3, .int (nI b))]) hx hb dL_isCash_7 hl (by decide) rfl (fun ls hl => ?_)
  refine lv_iconst (v := 0) hx hb dL_isCash_9 (by decide) ?_
  refine lv_istore (lv' := [(9, .int 0), (8, .int 1), (6, .long 0), (4, .long 0), (0, .ref x), (1, .ref pe), (2, .int (nI a)), (3, .int (nI b))]) hx hb dL_isCash_10 hl (by decide) rfl (fun ls hl => ?_)
  have hal : allS h0 h1 fx (nI a) (nI b) ts 4 = pdL h0 h1 fx (nI a) (nI b) ts := allS_4 hHV
  have loop2 : ∀ (us : List TR) (i c9 s9 : Nat) (f : Int64) (locs : List Loc) (ls : Array Slot), ts.drop i = us → i ≤ ts.length → pdL h0 h1 fx (nI a) (nI b) ts = f + pdL h0 h1 fx (nI a) (nI b) us → c9 + 80 * us.length ≤ 900 → s9 + 480 * us.length ≤ 5400 → va_S (fr E) s.heap H locs → lv_has ls 12 [(0, .ref x), (1, .ref pe), (2, .int (nI a)), (3, .int (nI b)), (4, .long (pdL h0 h1 fx (nI a) (nI b) ts)), (6, .long f), (8, .int 1), (9, .int (nI i))] → W p (eL E) e (rmk 11 900 5400) s m ([.ref x, .ref pe, .int (nI a), .int (nI b)]).toArray below meth co H locs c9 s9 (MQ below (CQ E (o1 (some (.int 1)) (fun H' => H' = H))) ([.ref x, .ref pe, .int (nI a), .int (nI b)]).toArray s 900 5400 (fr E)) (F0 m 70 ls []) := by
    intro us
    induction us with
    | nil =>
      intro i c9 s9 f locs ls hd hi he hc hs hS hl
      have hi2 := drop_n hd hi
      refine lv_iload hx hb dL_isCash_70 (lv_at hl 7 rfl) ?_
      refine lv_aload_n hx hb dL_isCash_72 rfl (lv_at hl 0 rfl) ?_
      refine pV hx hb hml hts hown hE kwL_17 (c_xtrades E ow x h0 h1 fx ts H hX hV hK) hO rfl (Nat.le_of_ble_eq_true rfl) rfl hl.1 rfl (Nat.le_of_ble_eq_true rfl) (by omega) (by omega) dL_isCash_73 ?_
      refine lv_icmp_ge (tgt := 185) hx hb dL_isCash_76 (by decide) (fun q1 => ?_) (fun q1 => ?_)
      rotate_left
      · exact absurd (nI_le (by omega) (by omega)) q1
      refine lv_iload hx hb dL_isCash_185 (lv_at hl 6 rfl) ?_
      refine lv_if_eq (tgt := 202) hx hb dL_isCash_187 (by decide) (fun q2 => ?_) (fun q2 => ?_)
      · exact absurd q2 (by decide)
      refine lv_lload hx hb dL_isCash_190 (lv_at hl 4 rfl) ?_
      refine lv_lload hx hb dL_isCash_192 (lv_at hl 5 rfl) ?_
      refine W.lcmp hx hb dL_isCash_194 ?_
      refine lv_if_ne (tgt := 202) hx hb dL_isCash_195 (by decide) (fun q3 => ?_) (fun q3 => ?_)
      · exact absurd (lcmp_eq0.mpr (by rw [he]; exact Int64.add_zero f)) q3
      refine lv_iconst (v := 1) hx hb dL_isCash_198 (by decide) ?_
      refine lv_goto (tgt := 203) hx hb dL_isCash_199 (by decide) ?_
      have hc : c9 ≤ 900 := by omega
      have hs : s9 ≤ 5400 := by omega
      exact cZ hx hb hr hlk hB hS (by omega) (by omega) (Or.inr rfl) (⟨rfl, rfl⟩) dL_isCash_203
    | cons tr us ih =>
      intro i c9 s9 f locs ls hd hi he hc hs hS hl
      obtain ⟨ht, hlt, hd2⟩ := drop_c hd
      rw [List.length_cons] at hc hs
      have hT := hV.tv ht
      obtain ⟨n6, n1, n10⟩ := hT.n
      have hH := hHV tr (List.mem_of_getElem? ht)
      have hpt := hpf i tr ht
      refine lv_iload hx hb dL_isCash_70 (lv_at hl 7 rfl) ?_
      refine lv_aload_n hx hb dL_isCash_72 rfl (lv_at hl 0 rfl) ?_
      refine pV hx hb hml hts hown hE kwL_17 (c_xtrades E ow x h0 h1 fx ts H hX hV hK) hO rfl (Nat.le_of_ble_eq_true rfl) rfl hl.1 rfl (Nat.le_of_ble_eq_true rfl) (by omega) (by omega) dL_isCash_73 ?_
      refine lv_icmp_ge (tgt := 185) hx hb dL_isCash_76 (by decide) (fun q1 => ?_) (fun q1 => ?_)
      · exact absurd q1 (nI_ge hlt (by omega))
      refine lv_iconst (v := 0) hx hb dL_isCash_79 (by decide) ?_
      refine lv_istore (lv' := [(10, .int 0), (0, .ref x), (1, .ref pe), (2, .int (nI a)), (3, .int (nI b)), (4, .long (pdL h0 h1 fx (nI a) (nI b) ts)), (6, .long f), (8, .int 1), (9, .int (nI i))]) hx hb dL_isCash_80 hl (by decide) rfl (fun ls hl => ?_)
      have loop3 : ∀ (r k c8 s8 : Nat) (locs : List Loc) (ls : Array Slot), k + r = np tr → c8 + 8 * r ≤ c9 + 80 → s8 + 48 * r ≤ s9 + 480 → va_S (fr E) s.heap H locs → lv_has ls 12 [(0, .ref x), (1, .ref pe), (2, .int (nI a)), (3, .int (nI b)), (4, .long (pdL h0 h1 fx (nI a) (nI b) ts)), (6, .long (f + pdS tr.1 tr.2.1 (bfC h0 h1 tr.1) fx (nI a) (nI b) k)), (8, .int 1), (9, .int (nI i)), (10, .int (nI k))] → W p (eL E) e (rmk 11 900 5400) s m ([.ref x, .ref pe, .int (nI a), .int (nI b)]).toArray below meth co H locs c8 s8 (MQ below (CQ E (o1 (some (.int 1)) (fun H' => H' = H))) ([.ref x, .ref pe, .int (nI a), .int (nI b)]).toArray s 900 5400 (fr E)) (F0 m 82 ls []) := by
        intro r
        induction r with
        | zero =>
          intro k c8 s8 locs ls hk h8 h7 hS hl
          have hk : k = np tr := hk
          refine lv_iload hx hb dL_isCash_82 (lv_at hl 8 rfl) ?_
          refine lv_aload_n hx hb dL_isCash_84 rfl (lv_at hl 1 rfl) ?_
          refine lv_iload hx hb dL_isCash_85 (lv_at hl 7 rfl) ?_
          refine aI hx hb hE hA rfl (by omega) (by omega) hpt dL_isCash_87 ?_
          refine lv_icmp_ge (tgt := 179) hx hb dL_isCash_88 (by decide) (fun q2 => ?_) (fun q2 => ?_)
          rotate_left
          · exact absurd (nI_le (by omega) (by omega)) q2
          refine lv_iinc (v := nI (i + 1)) (lv' := [(9, .int (nI (i + 1))), (0, .ref x), (1, .ref pe), (2, .int (nI a)), (3, .int (nI b)), (4, .long (pdL h0 h1 fx (nI a) (nI b) ts)), (6, .long (f + pdS tr.1 tr.2.1 (bfC h0 h1 tr.1) fx (nI a) (nI b) k)), (8, .int 1), (10, .int (nI k))]) hx hb dL_isCash_179 hl (k := 7) rfl (nI_1 i) (by decide) rfl (fun ls hl => ?_)
          refine lv_goto (tgt := 70) hx hb dL_isCash_182 (by decide) ?_
          refine ih (i + 1) c8 s8 _ locs ls hd2 (by omega) ?_ (by omega) (by omega) hS (lv_sub hl [1, 2, 3, 4, 5, 6, 7, 0] rfl)
          rw [he, hk]
          exact (Int64.add_assoc _ _ _).symm
        | succ r ih3 =>
          intro k c8 s8 locs ls hk h8 h7 hS hl
          have hlk : k < np tr := by omega
          refine lv_iload hx hb dL_isCash_82 (lv_at hl 8 rfl) ?_
          refine lv_aload_n hx hb dL_isCash_84 rfl (lv_at hl 1 rfl) ?_
          refine lv_iload hx hb dL_isCash_85 (lv_at hl 7 rfl) ?_
          refine aI hx hb hE hA rfl (by omega) (by omega) hpt dL_isCash_87 ?_
          refine lv_icmp_ge (tgt := 179) hx hb dL_isCash_88 (by decide) (fun q2 => ?_) (fun q2 => ?_)
          · exact absurd q2 (nI_ge hlk (by omega))
          refine lv_aload_n hx hb dL_isCash_91 rfl (lv_at hl 0 rfl) ?_
          refine lv_iload hx hb dL_isCash_92 (lv_at hl 7 rfl) ?_
          refine lv_iload hx hb dL_isCash_94 (lv_at hl 8 rfl) ?_
          refine gV hx hb hml hts hown hB hE hS kwL_21 (n_end hX hV hK ht hlk) hO rfl (Nat.le_of_ble_eq_true rfl) rfl hl.1 rfl (Nat.le_of_ble_eq_true rfl) (by omega) (by omega) dL_isCash_96 (fun H21 L21 hG hz21 hE hS => ?_)
          have hG := hG.symm
          subst hG
          refine lv_istore (lv' := [(11, .int (bfC h0 h1 tr.1 (k + 1))), (0, .ref x), (1, .ref pe), (2, .int (nI a)), (3, .int (nI b)), (4, .long (pdL h0 h1 fx (nI a) (nI b) ts)), (6, .long (f + pdS tr.1 tr.2.1 (bfC h0 h1 tr.1) fx (nI a) (nI b) k)), (8, .int 1), (9, .int (nI i)), (10, .int (nI k))]) hx hb dL_isCash_99 hl (by decide) rfl (fun ls hl => ?_)
          refine lv_lload hx hb dL_isCash_101 (lv_at hl 6 rfl) ?_
          refine lv_iload hx hb dL_isCash_103 (lv_at hl 0 rfl) ?_
          refine lv_iload_n hx hb dL_isCash_105 rfl (lv_at hl 3 rfl) ?_
          refine lv_icmp_lt (tgt := 126) hx hb dL_isCash_106 (by decide) (fun p1 => ?_) (fun p1 => ?_)
          · refine lv_lconst (v := 0) hx hb dL_isCash_126 (by decide) ?_
            refine lv_ladd hx hb dL_isCash_127 ?_
            rw [show f + pdS tr.1 tr.2.1 (bfC h0 h1 tr.1) fx (nI a) (nI b) k + 0 = f + pdS tr.1 tr.2.1 (bfC h0 h1 tr.1) fx (nI a) (nI b) (k + 1) from pdS_out f (Or.inl p1)]
            refine lv_lstore (lv' := [(6, .long (f + pdS tr.1 tr.2.1 (bfC h0 h1 tr.1) fx (nI a) (nI b) (k + 1))), (11, .int (bfC h0 h1 tr.1 (k + 1))), (0, .ref x), (1, .ref pe), (2, .int (nI a)), (3, .int (nI b)), (4, .long (pdL h0 h1 fx (nI a) (nI b) ts)), (8, .int 1), (9, .int (nI i)), (10, .int (nI k))]) hx hb dL_isCash_128 hl (by decide) rfl (fun ls hl => ?_)
            refine lv_iload hx hb dL_isCash_130 (lv_at hl 7 rfl) ?_
            refine lv_if_eq (tgt := 170) hx hb dL_isCash_132 (by decide) (fun p5 => ?_) (fun p5 => ?_)
            · exact absurd p5 (by decide)
            refine lv_iload hx hb dL_isCash_135 (lv_at hl 1 rfl) ?_
            refine lv_iload_n hx hb dL_isCash_137 rfl (lv_at hl 4 rfl) ?_
            refine lv_icmp_lt (tgt := 166) hx hb dL_isCash_138 (by decide) (fun p6 => ?_) (fun p6 => ?_)
            rotate_left
            · exact absurd p1 p6
            refine lv_iconst (v := 1) hx hb dL_isCash_166 (by decide) ?_
            refine lv_goto (tgt := 171) hx hb dL_isCash_167 (by decide) ?_
            refine lv_istore (lv' := [(8, .int 1), (6, .long (f + pdS tr.1 tr.2.1 (bfC h0 h1 tr.1) fx (nI a) (nI b) (k + 1))), (11, .int (bfC h0 h1 tr.1 (k + 1))), (0, .ref x), (1, .ref pe), (2, .int (nI a)), (3, .int (nI b)), (4, .long (pdL h0 h1 fx (nI a) (nI b) ts)), (9, .int (nI i)), (10, .int (nI k))]) hx hb dL_isCash_171 hl (by decide) rfl (fun ls hl => ?_)
            refine lv_iinc (v := nI (k + 1)) (lv' := [(10, .int (nI (k + 1))), (8, .int 1), (6, .long (f + pdS tr.1 tr.2.1 (bfC h0 h1 tr.1) fx (nI a) (nI b) (k + 1))), (11, .int (bfC h0 h1 tr.1 (k + 1))), (0, .ref x), (1, .ref pe), (2, .int (nI a)), (3, .int (nI b)), (4, .long (pdL h0 h1 fx (nI a) (nI b) ts)), (9, .int (nI i))]) hx hb dL_isCash_173 hl (k := 9) rfl (nI_1 k) (by decide) rfl (fun ls hl => ?_)
            refine lv_goto (tgt := 82) hx hb dL_isCash_176 (by decide) ?_
            exact ih3 (k + 1) _ _ L21 ls (by omega) (by omega) (by omega) hS (lv_sub hl [4, 5, 6, 7, 8, 2, 1, 9, 0] rfl)
          · refine lv_iload hx hb dL_isCash_109 (lv_at hl 0 rfl) ?_
            refine lv_iload_n hx hb dL_isCash_111 rfl (lv_at hl 4 rfl) ?_
            refine lv_icmp_gt (tgt := 126) hx hb dL_isCash_112 (by decide) (fun p2 => ?_) (fun p2 => ?_)
            · refine lv_lconst (v := 0) hx hb dL_isCash_126 (by decide) ?_
              refine lv_ladd hx hb dL_isCash_127 ?_
              rw [show f + pdS tr.1 tr.2.1 (bfC h0 h1 tr.1) fx (nI a) (nI b) k + 0 = f + pdS tr.1 tr.2.1 (bfC h0 h1 tr.1) fx (nI a) (nI b) (k + 1) from pdS_out f (Or.inr p2)]
              refine lv_lstore (lv' := [(6, .long (f + pdS tr.1 tr.2.1 (bfC h0 h1 tr.1) fx (nI a) (nI b) (k + 1))), (11, .int (bfC h0 h1 tr.1 (k + 1))), (0, .ref x), (1, .ref pe), (2, .int (nI a)), (3, .int (nI b)), (4, .long (pdL h0 h1 fx (nI a) (nI b) ts)), (8, .int 1), (9, .int (nI i)), (10, .int (nI k))]) hx hb dL_isCash_128 hl (by decide) rfl (fun ls hl => ?_)
              refine lv_iload hx hb dL_isCash_130 (lv_at hl 7 rfl) ?_
              refine lv_if_eq (tgt := 170) hx hb dL_isCash_132 (by decide) (fun p5 => ?_) (fun p5 => ?_)
              · exact absurd p5 (by decide)
              refine lv_iload hx hb dL_isCash_135 (lv_at hl 1 rfl) ?_
              refine lv_iload_n hx hb dL_isCash_137 rfl (lv_at hl 4 rfl) ?_
              refine lv_icmp_lt (tgt := 166) hx hb dL_isCash_138 (by decide) (fun p6 => ?_) (fun p6 => ?_)
              · exact absurd p6 p1
              refine lv_iload hx hb dL_isCash_141 (lv_at hl 1 rfl) ?_
              refine lv_iload_n hx hb dL_isCash_143 rfl (lv_at hl 5 rfl) ?_
              refine lv_icmp_gt (tgt := 166) hx hb dL_isCash_144 (by decide) (fun p7 => ?_) (fun p7 => ?_)
              rotate_left
              · exact absurd p2 p7
              refine lv_iconst (v := 1) hx hb dL_isCash_166 (by decide) ?_
              refine lv_goto (tgt := 171) hx hb dL_isCash_167 (by decide) ?_
              refine lv_istore (lv' := [(8, .int 1), (6, .long (f + pdS tr.1 tr.2.1 (bfC h0 h1 tr.1) fx (nI a) (nI b) (k + 1))), (11, .int (bfC h0 h1 tr.1 (k + 1))), (0, .ref x), (1, .ref pe), (2, .int (nI a)), (3, .int (nI b)), (4, .long (pdL h0 h1 fx (nI a) (nI b) ts)), (9, .int (nI i)), (10, .int (nI k))]) hx hb dL_isCash_171 hl (by decide) rfl (fun ls hl => ?_)
              refine lv_iinc (v := nI (k + 1)) (lv' := [(10, .int (nI (k + 1))), (8, .int 1), (6, .long (f + pdS tr.1 tr.2.1 (bfC h0 h1 tr.1) fx (nI a) (nI b) (k + 1))), (11, .int (bfC h0 h1 tr.1 (k + 1))), (0, .ref x), (1, .ref pe), (2, .int (nI a)), (3, .int (nI b)), (4, .long (pdL h0 h1 fx (nI a) (nI b) ts)), (9, .int (nI i))]) hx hb dL_isCash_173 hl (k := 9) rfl (nI_1 k) (by decide) rfl (fun ls hl => ?_)
              refine lv_goto (tgt := 82) hx hb dL_isCash_176 (by decide) ?_
              exact ih3 (k + 1) _ _ L21 ls (by omega) (by omega) (by omega) hS (lv_sub hl [4, 5, 6, 7, 8, 2, 1, 9, 0] rfl)
            · refine lv_aload_n hx hb dL_isCash_115 rfl (lv_at hl 1 rfl) ?_
              refine lv_iload hx hb dL_isCash_116 (lv_at hl 8 rfl) ?_
              refine lv_iload hx hb dL_isCash_118 (lv_at hl 9 rfl) ?_
              refine gV hx hb hml hts hown hB hE hS kwL_25 (n_flow hX hV hK ht hlk) hO rfl (Nat.le_of_ble_eq_true rfl) rfl hl.1 rfl (Nat.le_of_ble_eq_true rfl) (by omega) (by omega) dL_isCash_120 (fun H22 L22 hG hz22 hE hS => ?_)
              have hG := hG.symm
              subst hG
              refine lv_goto (tgt := 127) hx hb dL_isCash_123 (by decide) ?_
              refine lv_ladd hx hb dL_isCash_127 ?_
              rw [show f + pdS tr.1 tr.2.1 (bfC h0 h1 tr.1) fx (nI a) (nI b) k + flwS tr.1 tr.2.1 (bfC h0 h1 tr.1) fx k = f + pdS tr.1 tr.2.1 (bfC h0 h1 tr.1) fx (nI a) (nI b) (k + 1) from pdS_in f p1 p2]
              refine lv_lstore (lv' := [(6, .long (f + pdS tr.1 tr.2.1 (bfC h0 h1 tr.1) fx (nI a) (nI b) (k + 1))), (11, .int (bfC h0 h1 tr.1 (k + 1))), (0, .ref x), (1, .ref pe), (2, .int (nI a)), (3, .int (nI b)), (4, .long (pdL h0 h1 fx (nI a) (nI b) ts)), (8, .int 1), (9, .int (nI i)), (10, .int (nI k))]) hx hb dL_isCash_128 hl (by decide) rfl (fun ls hl => ?_)
              refine lv_iload hx hb dL_isCash_130 (lv_at hl 7 rfl) ?_
              refine lv_if_eq (tgt := 170) hx hb dL_isCash_132 (by decide) (fun p5 => ?_) (fun p5 => ?_)
              · exact absurd p5 (by decide)
              refine lv_iload hx hb dL_isCash_135 (lv_at hl 1 rfl) ?_
              refine lv_iload_n hx hb dL_isCash_137 rfl (lv_at hl 4 rfl) ?_
              refine lv_icmp_lt (tgt := 166) hx hb dL_isCash_138 (by decide) (fun p6 => ?_) (fun p6 => ?_)
              · exact absurd p6 p1
              refine lv_iload hx hb dL_isCash_141 (lv_at hl 1 rfl) ?_
              refine lv_iload_n hx hb dL_isCash_143 rfl (lv_at hl 5 rfl) ?_
              refine lv_icmp_gt (tgt := 166) hx hb dL_isCash_144 (by decide) (fun p7 => ?_) (fun p7 => ?_)
              · exact absurd p7 p2
              refine lv_aload_n hx hb dL_isCash_147 rfl (lv_at hl 2 rfl) ?_
              refine lv_aload_n hx hb dL_isCash_148 rfl (lv_at hl 2 rfl) ?_
              refine lv_iload hx hb dL_isCash_149 (lv_at hl 8 rfl) ?_
              refine lv_iload hx hb dL_isCash_151 (lv_at hl 1 rfl) ?_
              obtain ⟨m9, hm9, em9⟩ := bfC_nat (h0 := h0) (h1 := h1) hT (k := k + 1) (by omega)
              have hle9 : m9 ≤ b := by rw [em9] at p2; rcases Nat.lt_or_ge b m9 with q9 | q9; exact absurd (nI_lt q9 (by omega)) p2; exact q9
              have hi9 : inB (bfC h0 h1 tr.1 (k + 1)) 0 3000 = true := by rw [em9]; exact inB_of (a := 0) (b := 3000) (Nat.zero_le _) (by omega) (by decide)
              have hi8 : inB (bfC h0 h1 tr.1 (k + 1)) 0 3100 = true := by rw [em9]; exact inB_of (a := 0) (b := 3100) (Nat.zero_le _) (by omega) (by decide)
              refine gV hx hb hml hts hown hB hE hS kwL_29 (n_party hX hV hK ht hi9) hO rfl (Nat.le_of_ble_eq_true rfl) rfl hl.1 rfl (Nat.le_of_ble_eq_true rfl) (by omega) (by omega) dL_isCash_153 (fun H23 L23 hG hz23 hE hS => ?_)
              have hG := hG.symm
              subst hG
              refine lv_iload hx hb dL_isCash_156 (lv_at hl 1 rfl) ?_
              have hcs9 : cdCash (hldS tr.1 tr.2.2 (bfC h0 h1 tr.1 (k + 1))) (bfC h0 h1 tr.1 (k + 1)) = 0 := by unfold cdCash; rw [if_neg (by rw [hH.in]; decide), if_pos hi8]
              refine gV hx hb hml hts hown hB hE hS kwL_32 (n_next hX hV hK hcs9) hO rfl (Nat.le_of_ble_eq_true rfl) rfl hl.1 rfl (Nat.le_of_ble_eq_true rfl) (by omega) (by omega) dL_isCash_158 (fun H24 L24 hG hz24 hE hS => ?_)
              have hG := hG.symm
              subst hG
              refine lv_iload hx hb dL_isCash_161 (lv_at hl 1 rfl) ?_
              refine lv_icmp_ne (tgt := 170) hx hb dL_isCash_163 (by decide) (fun p8 => ?_) (fun p8 => ?_)
              · exact absurd (next_hit hV ht hlk) p8
              refine lv_iconst (v := 1) hx hb dL_isCash_166 (by decide) ?_
              refine lv_goto (tgt := 171) hx hb dL_isCash_167 (by decide) ?_
              refine lv_istore (lv' := [(8, .int 1), (6, .long (f + pdS tr.1 tr.2.1 (bfC h0 h1 tr.1) fx (nI a) (nI b) (k + 1))), (11, .int (bfC h0 h1 tr.1 (k + 1))), (0, .ref x), (1, .ref pe), (2, .int (nI a)), (3, .int (nI b)), (4, .long (pdL h0 h1 fx (nI a) (nI b) ts)), (9, .int (nI i)), (10, .int (nI k))]) hx hb dL_isCash_171 hl (by decide) rfl (fun ls hl => ?_)
              refine lv_iinc (v := nI (k + 1)) (lv' := [(10, .int (nI (k + 1))), (8, .int 1), (6, .long (f + pdS tr.1 tr.2.1 (bfC h0 h1 tr.1) fx (nI a) (nI b) (k + 1))), (11, .int (bfC h0 h1 tr.1 (k + 1))), (0, .ref x), (1, .ref pe), (2, .int (nI a)), (3, .int (nI b)), (4, .long (pdL h0 h1 fx (nI a) (nI b) ts)), (9, .int (nI i))]) hx hb dL_isCash_173 hl (k := 9) rfl (nI_1 k) (by decide) rfl (fun ls hl => ?_)
              refine lv_goto (tgt := 82) hx hb dL_isCash_176 (by decide) ?_
              exact ih3 (k + 1) _ _ L24 ls (by omega) (by omega) (by omega) hS (lv_sub hl [4, 5, 6, 7, 8, 2, 1, 9, 0] rfl)
      exact loop3 (np tr) 0 c9 s9 locs ls (by omega) (by omega) (by omega) hS (by rw [show f + pdS tr.1 tr.2.1 (bfC h0 h1 tr.1) fx (nI a) (nI b) 0 = f from Int64.add_zero f]; exact (lv_sub hl [1, 2, 3, 4, 5, 6, 7, 8, 0] rfl))
  have loop1 : ∀ (r i : Nat) (locs : List Loc) (ls : Array Slot), i + r = 4 → va_S (fr E) s.heap H locs → lv_has ls 12 [(0, .ref x), (1, .ref pe), (2, .int (nI a)), (3, .int (nI b)), (4, .long (allS h0 h1 fx (nI a) (nI b) ts i)), (6, .long 0), (8, .int 1), (9, .int (nI i))] → W p (eL E) e (rmk 11 900 5400) s m ([.ref x, .ref pe, .int (nI a), .int (nI b)]).toArray below meth co H locs (6 * i) (36 * i) (MQ below (CQ E (o1 (some (.int 1)) (fun H' => H' = H))) ([.ref x, .ref pe, .int (nI a), .int (nI b)]).toArray s 900 5400 (fr E)) (F0 m 12 ls []) := by
    intro r
    induction r with
    | zero =>
      intro i locs ls hi hS hl
      have hi : i = 4 := hi
      refine lv_iload hx hb dL_isCash_12 (lv_at hl 7 rfl) ?_
      refine lv_iconst (v := 4) hx hb dL_isCash_14 (by decide) ?_
      refine lv_icmp_ge (tgt := 67) hx hb dL_isCash_15 (by decide) (fun q1 => ?_) (fun q1 => ?_)
      rotate_left
      · exact absurd (nI_le (a := 4) (by omega) (by omega)) q1
      refine lv_iconst (v := 0) hx hb dL_isCash_67 (by decide) ?_
      refine lv_istore (lv' := [(9, .int 0), (0, .ref x), (1, .ref pe), (2, .int (nI a)), (3, .int (nI b)), (4, .long (allS h0 h1 fx (nI a) (nI b) ts i)), (6, .long 0), (8, .int 1)]) hx hb dL_isCash_68 hl (by decide) rfl (fun ls hl => ?_)
      rw [hi, hal] at hl
      exact loop2 ts 0 _ _ 0 locs ls rfl (Nat.zero_le _) (Int64.zero_add _).symm (by omega) (by omega) hS (lv_sub hl [1, 2, 3, 4, 5, 6, 7, 0] rfl)
    | succ r ih =>
      intro i locs ls hi hS hl
      have hcd : cdSpan (nI i) (nI a) (nI b) = 0 := span_ok (by omega) hab hb4 (by omega)
      refine lv_iload hx hb dL_isCash_12 (lv_at hl 7 rfl) ?_
      refine lv_iconst (v := 4) hx hb dL_isCash_14 (by decide) ?_
      refine lv_icmp_ge (tgt := 67) hx hb dL_isCash_15 (by decide) (fun q1 => ?_) (fun q1 => ?_)
      · exact absurd q1 (nI_ge (b := 4) (by omega) (by decide))
      refine lv_iload hx hb dL_isCash_18 (lv_at hl 6 rfl) ?_
      refine lv_if_eq (tgt := 67) hx hb dL_isCash_20 (by decide) (fun q2 => ?_) (fun q2 => ?_)
      · exact absurd q2 (by decide)
      refine lv_aload_n hx hb dL_isCash_23 rfl (lv_at hl 0 rfl) ?_
      refine lv_iload hx hb dL_isCash_24 (lv_at hl 7 rfl) ?_
      refine lv_iload_n hx hb dL_isCash_26 rfl (lv_at hl 2 rfl) ?_
      refine lv_iload_n hx hb dL_isCash_27 rfl (lv_at hl 3 rfl) ?_
      refine gV hx hb hml hts hown hB hE hS kwL_8 (n_days hX hV hK hcd) hO rfl (Nat.le_of_ble_eq_true rfl) rfl hl.1 rfl (Nat.le_of_ble_eq_true rfl) (by omega) (by omega) dL_isCash_28 (fun H11 L11 hG hz11 hE hS => ?_)
      have hG := hG.symm
      subst hG
      refine lv_lstore (lv' := [(10, .long (sumS h0 h1 fx (nI i) (nI a) (nI b) 0 ts)), (0, .ref x), (1, .ref pe), (2, .int (nI a)), (3, .int (nI b)), (4, .long (allS h0 h1 fx (nI a) (nI b) ts i)), (6, .long 0), (8, .int 1), (9, .int (nI i))]) hx hb dL_isCash_31 hl (by decide) rfl (fun ls hl => ?_)
      refine lv_lload hx hb dL_isCash_33 (lv_at hl 5 rfl) ?_
      refine lv_lload hx hb dL_isCash_35 (lv_at hl 0 rfl) ?_
      refine lv_ladd hx hb dL_isCash_37 ?_
      refine lv_lstore (lv' := [(4, .long (allS h0 h1 fx (nI a) (nI b) ts i + (sumS h0 h1 fx (nI i) (nI a) (nI b) 0 ts))), (10, .long (sumS h0 h1 fx (nI i) (nI a) (nI b) 0 ts)), (0, .ref x), (1, .ref pe), (2, .int (nI a)), (3, .int (nI b)), (6, .long 0), (8, .int 1), (9, .int (nI i))]) hx hb dL_isCash_38 hl (by decide) rfl (fun ls hl => ?_)
      refine lv_aload_n hx hb dL_isCash_40 rfl (lv_at hl 2 rfl) ?_
      refine lv_iload hx hb dL_isCash_41 (lv_at hl 8 rfl) ?_
      refine lv_iload_n hx hb dL_isCash_43 rfl (lv_at hl 4 rfl) ?_
      refine lv_iload_n hx hb dL_isCash_44 rfl (lv_at hl 5 rfl) ?_
      refine gV hx hb hml hts hown hB hE hS kwL_14 (n_bytr hX hV hK hcd) hO rfl (Nat.le_of_ble_eq_true rfl) rfl hl.1 rfl (Nat.le_of_ble_eq_true rfl) (by omega) (by omega) dL_isCash_45 (fun H12 L12 hG hz12 hE hS => ?_)
      have hG := hG.symm
      subst hG
      refine lv_lload hx hb dL_isCash_48 (lv_at hl 1 rfl) ?_
      refine W.lcmp hx hb dL_isCash_50 ?_
      refine lv_if_ne (tgt := 58) hx hb dL_isCash_51 (by decide) (fun q3 => ?_) (fun q3 => ?_)
      · exact absurd (lcmp_eq0.mpr rfl) q3
      refine lv_iconst (v := 1) hx hb dL_isCash_54 (by decide) ?_
      refine lv_goto (tgt := 59) hx hb dL_isCash_55 (by decide) ?_
      refine lv_istore (lv' := [(8, .int 1), (4, .long (allS h0 h1 fx (nI a) (nI b) ts i + (sumS h0 h1 fx (nI i) (nI a) (nI b) 0 ts))), (10, .long (sumS h0 h1 fx (nI i) (nI a) (nI b) 0 ts)), (0, .ref x), (1, .ref pe), (2, .int (nI a)), (3, .int (nI b)), (6, .long 0), (9, .int (nI i))]) hx hb dL_isCash_59 hl (by decide) rfl (fun ls hl => ?_)
      refine lv_iinc (v := nI (i + 1)) (lv' := [(9, .int (nI (i + 1))), (8, .int 1), (4, .long (allS h0 h1 fx (nI a) (nI b) ts i + (sumS h0 h1 fx (nI i) (nI a) (nI b) 0 ts))), (10, .long (sumS h0 h1 fx (nI i) (nI a) (nI b) 0 ts)), (0, .ref x), (1, .ref pe), (2, .int (nI a)), (3, .int (nI b)), (6, .long 0)]) hx hb dL_isCash_61 hl (k := 8) rfl (nI_1 i) (by decide) rfl (fun ls hl => ?_)
      refine lv_goto (tgt := 12) hx hb dL_isCash_64 (by decide) ?_
      exact ih (i + 1) L12 ls (by omega) hS (lv_sub hl [4, 5, 6, 7, 2, 8, 1, 0] rfl)
  exact loop1 4 0 [] ls rfl hS (lv_sub hl [4, 5, 6, 7, 3, 2, 1, 0] rfl)
end
section
/-! isPressed -/
theorem XOut.tr {E : ET} {ow ow1 : Nat → Nat × Nat} {x : Nat} {h0 h1 fx : Dy} {ts : List TR} {H H1 H2 : Heap} (e1 : ∀ q, q < H.size → ow1 q = ow q) (e2 : ∀ q, H.size ≤ q → (ow1 q).1 ≠ 4) (hF : FR (fun q => (ow q).1 ≠ 4) H H1) (h : XOut E ow1 x h0 h1 fx ts H1 H2) : XOut E ow x h0 h1 fx ts H H2 := by
  obtain ⟨ow2, g1, g2, hX, hG⟩ := h
  have hz := hF.1
  refine ⟨ow2, fun q hq => (g1 q (by omega)).trans (e1 q hq), fun q hq => ?_, hX, hF.tr hG (fun q hq h4 => ?_)⟩
  · rcases Nat.lt_or_ge q H1.size with c | c
    · rw [g1 q c]; exact e2 q hq
    · exact g2 q c
  · show (ow q).1 ≠ 4
    rw [← e1 q hq]
    exact h4
theorem prs_pv {h0 h1 fx : Dy} {ts : List TR} {d K : Nat} (hV : SV h0 h1 fx ts) (hK : ∀ tr ∈ ts, tr.2.1.length ≤ K) (hd : d ≤ 3000) : PV h0 h1 fx ts.length K (prs h0 h1 (nI d) ts) := PV.ou hd ts.length 0 (ts, 0, 0, []) ⟨rfl, hV, hK⟩
theorem n_press0 {E : ET} {ow : Nat → Nat × Nat} {x : Nat} {h0 h1 fx : Dy} {ts : List TR} {H : Heap} {d K : Nat} (hX : XR E ow x h0 h1 fx ts H) (hV : SV h0 h1 fx ts) (hK : BL ts) (hd : d ≤ 3000) (hK9 : ∀ tr ∈ ts, tr.2.1.length ≤ K) (hK5 : K ≤ 5000) (he : prs h0 h1 (nI d) ts = (ts, 0, 0, [])) : Con E yX4_press cX4_press 5 (some FieldType.int) 10 1 6 [.ref x, .int (nI d)] H (o1 (some (.int 0)) (fun H' => XOut E ow x h0 h1 fx ts H H')) := by
  have h := n_press (K := K) (KK := K) hX hV hK hd hK9 (by rw [he]; exact Nat.le_refl _) hK5
  rw [he] at h
  exact h
theorem np_le {tr' tr : TR} (h : leT tr' tr) : np tr' = np tr := by unfold np; rw [h.1]
set_option maxRecDepth 100000 in
set_option maxHeartbeats 4000000 in
/-- isPressed -/
theorem c_isPressed (E : ET) (ow : Nat → Nat × Nat) (x : Nat) (h0 h1 fx : Dy) (ts : List TR) (pe d a K KK : Nat) (pf : Nat → Int32) (H : Heap) (hX : XR E ow x h0 h1 fx ts H) (hV : SV h0 h1 fx ts) (hK : BL ts) (hG : ∀ tr ∈ ts, GT tr) (hA : IA E 10 pf pe H) (hop : (ow pe).1 = 4) (hpf : ∀ (t : Nat) (tr : TR), ts[t]? = some tr → pf t = nI (np tr)) (hd : d ≤ 1000) (ha : a ≤ 1000) (hK9 : ∀ tr ∈ ts, tr.2.1.length ≤ K) (hKK : K + (prs h0 h1 (nI d) ts).2.2.1 ≤ KK) (hKK5 : KK ≤ 4000) : Con E yL_isPressed cL_isPressed 14 (some FieldType.boolean) 11 (1100 + 4 * (prs h0 h1 (nI d) ts).2.2.1) (6300 + 2 * (2 + (2 * KK + 10)) * (prs h0 h1 (nI d) ts).2.2.1) [.ref x, .ref pe, .int (nI d), .int (nI a)] H (o1 (some (.int 1)) (fun H' => XOut E ow x h0 h1 fx (prs h0 h1 (nI d) ts).1 H H')) := by
  refine Con.of (C := RL) rfl (by decide +kernel) (Nat.le_of_ble_eq_true rfl) ?_
  intro p e s m below meth co ls hx hb hr hlk hml hown hts hin hE hH hS hl
  have hl : lv_has ls 14 [(0, .ref x), (1, .ref pe), (2, .int (nI d)), (3, .int (nI a))] := hl
  have hB : eB E ≤ s.heap.size := by rw [hH]; exact hE.2.1
  obtain ⟨fs, hO⟩ := hX.ob
  have htn := hV.tn
  have hTG : ∀ tr ∈ ts, TV tr ∧ GT tr := fun tr ht => ⟨hV.2.2.2.2.2.2.2.2 tr ht, hG tr ht⟩
  obtain ⟨p1, p2, ⟨nq, p3, p4⟩, p5⟩ := prs_all (h0 := h0) (h1 := h1) (fx := fx) (d := d) (by omega) hTG
  have ptwo := prs_two (h0 := h0) (h1 := h1) (d := d) (by omega) (fun tr ht => ⟨(hTG tr ht).1, (hTG tr ht).2.1⟩)
  have hcn := prs_cn h0 h1 (nI d) ts htn
  obtain ⟨pv1, pv2, pv3⟩ := prs_pv (K := K) hV hK9 (d := d) (by omega)
  have hc1 := n_press (K := K) (KK := KK) hX hV hK (d := d) (by omega) hK9 hKK (by omega)
  obtain ⟨PF, hPF⟩ : ∃ z, z = prs h0 h1 (nI d) ts := ⟨_, rfl⟩
  rw [← hPF] at p1 p2 p3 p4 p5 ptwo hcn pv1 pv2 pv3 hc1 hKK ⊢
  obtain ⟨D, hD9⟩ : ∃ z, z = 2 * (2 + (2 * KK + 10)) := ⟨_, rfl⟩
  rw [← hD9] at hc1 ⊢
  clear hPF
  have hDp : D * PF.2.2.1 ≤ D * PF.2.2.1 := Nat.le_refl _
  have hGt := hG
  clear hG
  refine lv_aload_n hx hb dL_isPressed_0 rfl (lv_at hl 0 rfl) ?_
  refine lv_iconst (v := 0) hx hb dL_isPressed_1 (by decide) ?_
  refine lv_iload_n hx hb dL_isPressed_2 rfl (lv_at hl 3 rfl) ?_
  refine lv_iload_n hx hb dL_isPressed_3 rfl (lv_at hl 3 rfl) ?_
  refine lv_sipush (v := 400) hx hb dL_isPressed_4 (by decide) ?_
  refine lv_iadd hx hb dL_isPressed_7 ?_
  rw [show nI a + 400 = nI (a + 400) from nI_add a 400]
  refine gV hx hb hml hts hown hB hE hS kwL_8 (n_days (pa := 0) hX hV hK (span_ok (pa := 0) (by omega) (by omega) (by omega) (by omega))) hO rfl (Nat.le_of_ble_eq_true rfl) rfl hl.1 rfl (Nat.le_of_ble_eq_true rfl) (by omega) (by omega) dL_isPressed_8 (fun H1 L1 hG hz1 hE hS => ?_)
  have hG := hG.symm
  subst hG
  refine lv_lstore (lv' := [(4, .long (sumS h0 h1 fx 0 (nI a) (nI (a + 400)) 0 ts)), (0, .ref x), (1, .ref pe), (2, .int (nI d)), (3, .int (nI a))]) hx hb dL_isPressed_11 hl (by decide) rfl (fun ls hl => ?_)
  refine lv_aload_n hx hb dL_isPressed_13 rfl (lv_at hl 1 rfl) ?_
  refine lv_iconst (v := 1) hx hb dL_isPressed_14 (by decide) ?_
  refine lv_iload_n hx hb dL_isPressed_15 rfl (lv_at hl 4 rfl) ?_
  refine lv_iload_n hx hb dL_isPressed_16 rfl (lv_at hl 4 rfl) ?_
  refine lv_sipush (v := 400) hx hb dL_isPressed_17 (by decide) ?_
  refine lv_iadd hx hb dL_isPressed_20 ?_
  rw [show nI a + 400 = nI (a + 400) from nI_add a 400]
  refine gV hx hb hml hts hown hB hE hS kwL_8 (n_days (pa := 1) hX hV hK (span_ok (pa := 1) (by omega) (by omega) (by omega) (by omega))) hO rfl (Nat.le_of_ble_eq_true rfl) rfl hl.1 rfl (Nat.le_of_ble_eq_true rfl) (by omega) (by omega) dL_isPressed_21 (fun H2 L2 hG hz2 hE hS => ?_)
  have hG := hG.symm
  subst hG
  refine lv_lstore (lv' := [(6, .long (sumS h0 h1 fx 1 (nI a) (nI (a + 400)) 0 ts)), (4, .long (sumS h0 h1 fx 0 (nI a) (nI (a + 400)) 0 ts)), (0, .ref x), (1, .ref pe), (2, .int (nI d)), (3, .int (nI a))]) hx hb dL_isPressed_24 hl (by decide) rfl (fun ls hl => ?_)
  refine lv_aload_n hx hb dL_isPressed_26 rfl (lv_at hl 2 rfl) ?_
  refine lv_iconst (v := 2) hx hb dL_isPressed_27 (by decide) ?_
  refine lv_iload_n hx hb dL_isPressed_28 rfl (lv_at hl 5 rfl) ?_
  refine lv_iload_n hx hb dL_isPressed_29 rfl (lv_at hl 5 rfl) ?_
  refine lv_sipush (v := 400) hx hb dL_isPressed_30 (by decide) ?_
  refine lv_iadd hx hb dL_isPressed_33 ?_
  rw [show nI a + 400 = nI (a + 400) from nI_add a 400]
  refine gV hx hb hml hts hown hB hE hS kwL_8 (n_days (pa := 2) hX hV hK (span_ok (pa := 2) (by omega) (by omega) (by omega) (by omega))) hO rfl (Nat.le_of_ble_eq_true rfl) rfl hl.1 rfl (Nat.le_of_ble_eq_true rfl) (by omega) (by omega) dL_isPressed_34 (fun H3 L3 hG hz3 hE hS => ?_)
  have hG := hG.symm
  subst hG
  refine lv_lstore (lv' := [(8, .long (sumS h0 h1 fx 2 (nI a) (nI (a + 400)) 0 ts)), (6, .long (sumS h0 h1 fx 1 (nI a) (nI (a + 400)) 0 ts)), (4, .long (sumS h0 h1 fx 0 (nI a) (nI (a + 400)) 0 ts)), (0, .ref x), (1, .ref pe), (2, .int (nI d)), (3, .int (nI a))]) hx hb dL_isPressed_37 hl (by decide) rfl (fun ls hl => ?_)
  refine lv_aload_n hx hb dL_isPressed_39 rfl (lv_at hl 3 rfl) ?_
  refine lv_iload_n hx hb dL_isPressed_40 rfl (lv_at hl 5 rfl) ?_
  refine gV hx hb hml hts hown hB hE hS kwL_35 hc1 hO rfl (Nat.le_of_ble_eq_true rfl) rfl hl.1 rfl (Nat.le_of_ble_eq_true rfl) (by omega) (by omega) dL_isPressed_41 (fun H4 L4 hG hz4 hE hS => ?_)
  obtain ⟨ow1, e1, e2, hX1, hF1⟩ := hG
  have hKn : BL PF.1 := fun y hy => by have := pv3 y hy; omega
  have hKK9 : ∀ tr ∈ PF.1, tr.2.1.length ≤ KK := fun y hy => by have := pv3 y hy; omega
  have hA1 : IA E 10 pf pe H4 := hF1.at hA (fun q => q hop)
  have hpf1 : ∀ (t : Nat) (tr : TR), PF.1[t]? = some tr → pf t = nI (np tr) := fun t tr ht => by obtain ⟨ur, hu, hl⟩ := p5 t tr ht; rw [np_le hl]; exact hpf t ur hu
  clear hO hA hX hK hV hc1 hpf p5
  obtain ⟨fs1, hO1⟩ := hX1.ob
  have htn1 := pv2.tn
  refine lv_istore (lv' := [(10, .int PF.2.1), (8, .long (sumS h0 h1 fx 2 (nI a) (nI (a + 400)) 0 ts)), (6, .long (sumS h0 h1 fx 1 (nI a) (nI (a + 400)) 0 ts)), (4, .long (sumS h0 h1 fx 0 (nI a) (nI (a + 400)) 0 ts)), (0, .ref x), (1, .ref pe), (2, .int (nI d)), (3, .int (nI a))]) hx hb dL_isPressed_44 hl (by decide) rfl (fun ls hl => ?_)
  refine lv_iload hx hb dL_isPressed_46 (lv_at hl 0 rfl) ?_
  refine lv_if_lt (tgt := 106) hx hb dL_isPressed_48 (by decide) (fun c1 => ?_) (fun c1 => ?_)
  · exact absurd c1 (by rw [p3]; exact nI_pos (by omega))
  refine lv_aload_n hx hb dL_isPressed_51 rfl (lv_at hl 4 rfl) ?_
  refine lv_iconst (v := 0) hx hb dL_isPressed_52 (by decide) ?_
  refine lv_iload_n hx hb dL_isPressed_53 rfl (lv_at hl 7 rfl) ?_
  refine lv_iload_n hx hb dL_isPressed_54 rfl (lv_at hl 7 rfl) ?_
  refine lv_sipush (v := 400) hx hb dL_isPressed_55 (by decide) ?_
  refine lv_iadd hx hb dL_isPressed_58 ?_
  rw [show nI a + 400 = nI (a + 400) from nI_add a 400]
  refine gV hx hb hml hts hown hB hE hS kwL_8 (n_days (pa := 0) hX1 pv2 hKn (span_ok (pa := 0) (by omega) (by omega) (by omega) (by omega))) hO1 rfl (Nat.le_of_ble_eq_true rfl) rfl hl.1 rfl (Nat.le_of_ble_eq_true rfl) (by omega) (by omega) dL_isPressed_59 (fun H5 L5 hG hz5 hE hS => ?_)
  have hG := hG.symm
  subst hG
  refine lv_lload hx hb dL_isPressed_62 (lv_at hl 3 rfl) ?_
  refine W.lcmp hx hb dL_isPressed_64 ?_
  refine lv_if_ne (tgt := 106) hx hb dL_isPressed_65 (by decide) (fun c2 => ?_) (fun c2 => ?_)
  · exact absurd (lcmp_eq0.mpr (p2 0 _ _)) c2
  refine lv_aload_n hx hb dL_isPressed_68 rfl (lv_at hl 4 rfl) ?_
  refine lv_iconst (v := 1) hx hb dL_isPressed_69 (by decide) ?_
  refine lv_iload_n hx hb dL_isPressed_70 rfl (lv_at hl 7 rfl) ?_
  refine lv_iload_n hx hb dL_isPressed_71 rfl (lv_at hl 7 rfl) ?_
  refine lv_sipush (v := 400) hx hb dL_isPressed_72 (by decide) ?_
  refine lv_iadd hx hb dL_isPressed_75 ?_
  rw [show nI a + 400 = nI (a + 400) from nI_add a 400]
  refine gV hx hb hml hts hown hB hE hS kwL_8 (n_days (pa := 1) hX1 pv2 hKn (span_ok (pa := 1) (by omega) (by omega) (by omega) (by omega))) hO1 rfl (Nat.le_of_ble_eq_true rfl) rfl hl.1 rfl (Nat.le_of_ble_eq_true rfl) (by omega) (by omega) dL_isPressed_76 (fun H6 L6 hG hz6 hE hS => ?_)
  have hG := hG.symm
  subst hG
  refine lv_lload hx hb dL_isPressed_79 (lv_at hl 2 rfl) ?_
  refine W.lcmp hx hb dL_isPressed_81 ?_
  refine lv_if_ne (tgt := 106) hx hb dL_isPressed_82 (by decide) (fun c3 => ?_) (fun c3 => ?_)
  · exact absurd (lcmp_eq0.mpr (p2 1 _ _)) c3
  refine lv_aload_n hx hb dL_isPressed_85 rfl (lv_at hl 4 rfl) ?_
  refine lv_iconst (v := 2) hx hb dL_isPressed_86 (by decide) ?_
  refine lv_iload_n hx hb dL_isPressed_87 rfl (lv_at hl 7 rfl) ?_
  refine lv_iload_n hx hb dL_isPressed_88 rfl (lv_at hl 7 rfl) ?_
  refine lv_sipush (v := 400) hx hb dL_isPressed_89 (by decide) ?_
  refine lv_iadd hx hb dL_isPressed_92 ?_
  rw [show nI a + 400 = nI (a + 400) from nI_add a 400]
  refine gV hx hb hml hts hown hB hE hS kwL_8 (n_days (pa := 2) hX1 pv2 hKn (span_ok (pa := 2) (by omega) (by omega) (by omega) (by omega))) hO1 rfl (Nat.le_of_ble_eq_true rfl) rfl hl.1 rfl (Nat.le_of_ble_eq_true rfl) (by omega) (by omega) dL_isPressed_93 (fun H7 L7 hG hz7 hE hS => ?_)
  have hG := hG.symm
  subst hG
  refine lv_lload hx hb dL_isPressed_96 (lv_at hl 1 rfl) ?_
  refine W.lcmp hx hb dL_isPressed_98 ?_
  refine lv_if_ne (tgt := 106) hx hb dL_isPressed_99 (by decide) (fun c4 => ?_) (fun c4 => ?_)
  · exact absurd (lcmp_eq0.mpr (p2 2 _ _)) c4
  refine lv_iconst (v := 1) hx hb dL_isPressed_102 (by decide) ?_
  refine lv_goto (tgt := 107) hx hb dL_isPressed_103 (by decide) ?_
  refine lv_istore (lv' := [(11, .int 1), (10, .int PF.2.1), (8, .long (sumS h0 h1 fx 2 (nI a) (nI (a + 400)) 0 ts)), (6, .long (sumS h0 h1 fx 1 (nI a) (nI (a + 400)) 0 ts)), (4, .long (sumS h0 h1 fx 0 (nI a) (nI (a + 400)) 0 ts)), (0, .ref x), (1, .ref pe), (2, .int (nI d)), (3, .int (nI a))]) hx hb dL_isPressed_107 hl (by decide) rfl (fun ls hl => ?_)
  refine lv_iconst (v := 0) hx hb dL_isPressed_109 (by decide) ?_
  refine lv_istore (lv' := [(12, .int 0), (11, .int 1), (10, .int PF.2.1), (8, .long (sumS h0 h1 fx 2 (nI a) (nI (a + 400)) 0 ts)), (6, .long (sumS h0 h1 fx 1 (nI a) (nI (a + 400)) 0 ts)), (4, .long (sumS h0 h1 fx 0 (nI a) (nI (a + 400)) 0 ts)), (0, .ref x), (1, .ref pe), (2, .int (nI d)), (3, .int (nI a))]) hx hb dL_isPressed_110 hl (by decide) rfl (fun ls hl => ?_)
  have loop2 : ∀ (us : List TR) (i c9 s9 : Nat) (locs : List Loc) (ls : Array Slot), PF.1.drop i = us → i ≤ PF.1.length → c9 + 100 * us.length ≤ 1070 + 4 * PF.2.2.1 → s9 + 600 * us.length ≤ 6200 + D * PF.2.2.1 → va_S (fr E) s.heap H4 locs → lv_has ls 14 [(0, .ref x), (1, .ref pe), (2, .int (nI d)), (3, .int (nI a)), (11, .int 1), (12, .int (nI i))] → W p (eL E) e (rmk 11 (1100 + 4 * PF.2.2.1) (6300 + D * PF.2.2.1)) s m ([.ref x, .ref pe, .int (nI d), .int (nI a)]).toArray below meth co H4 locs c9 s9 (MQ below (CQ E (o1 (some (.int 1)) (fun H' => XOut E ow x h0 h1 fx PF.1 H H'))) ([.ref x, .ref pe, .int (nI d), .int (nI a)]).toArray s (1100 + 4 * PF.2.2.1) (6300 + D * PF.2.2.1) (fr E)) (F0 m 112 ls []) := by
    intro us
    induction us with
    | nil =>
      intro i c9 s9 locs ls hd9 hi hc hs hS hl
      have hi2 := drop_n hd9 hi
      have hc : c9 ≤ 1070 + 4 * PF.2.2.1 := by omega
      have hs : s9 ≤ 6200 + D * PF.2.2.1 := by omega
      refine lv_iload hx hb dL_isPressed_112 (lv_at hl 5 rfl) ?_
      refine lv_aload_n hx hb dL_isPressed_114 rfl (lv_at hl 0 rfl) ?_
      refine pV hx hb hml hts hown hE kwL_17 (c_xtrades E ow1 x h0 h1 fx PF.1 H4 hX1 pv2 hKn) hO1 rfl (Nat.le_of_ble_eq_true rfl) rfl hl.1 rfl (Nat.le_of_ble_eq_true rfl) (by omega) (by omega) dL_isPressed_115 ?_
      refine lv_icmp_ge (tgt := 218) hx hb dL_isPressed_118 (by decide) (fun q1 => ?_) (fun q1 => ?_)
      rotate_left
      · exact absurd (nI_le (by omega) (by omega)) q1
      refine lv_iload hx hb dL_isPressed_218 (lv_at hl 4 rfl) ?_
      refine lv_if_eq (tgt := 235) hx hb dL_isPressed_220 (by decide) (fun q2 => ?_) (fun q2 => ?_)
      · exact absurd q2 (by decide)
      refine lv_aload_n hx hb dL_isPressed_223 rfl (lv_at hl 0 rfl) ?_
      refine lv_iload_n hx hb dL_isPressed_224 rfl (lv_at hl 2 rfl) ?_
      refine gV hx hb hml hts hown hB hE hS kwL_35 (n_press0 hX1 pv2 hKn (by omega) hKK9 (by omega) ptwo) hO1 rfl (Nat.le_of_ble_eq_true rfl) rfl hl.1 rfl (Nat.le_of_ble_eq_true rfl) (by omega) (by omega) dL_isPressed_225 (fun H8 L8 hG hz8 hE hS => ?_)
      refine lv_if_ne (tgt := 235) hx hb dL_isPressed_228 (by decide) (fun q3 => ?_) (fun q3 => ?_)
      · exact absurd rfl q3
      refine lv_iconst (v := 1) hx hb dL_isPressed_231 (by decide) ?_
      refine lv_goto (tgt := 236) hx hb dL_isPressed_232 (by decide) ?_
      exact cZ hx hb hr hlk hB hS (by omega) (by omega) (Or.inr rfl) (⟨rfl, XOut.tr e1 e2 hF1 hG⟩) dL_isPressed_236
    | cons tr us ih =>
      intro i c9 s9 locs ls hd9 hi hc hs hS hl
      obtain ⟨ht, hlt, hd2⟩ := drop_c hd9
      rw [List.length_cons] at hc hs
      obtain ⟨hT, hGB, -⟩ := p1 tr (List.mem_of_getElem? ht)
      obtain ⟨n6, n1, n10⟩ := hT.n
      have hpt := hpf1 i tr ht
      refine lv_iload hx hb dL_isPressed_112 (lv_at hl 5 rfl) ?_
      refine lv_aload_n hx hb dL_isPressed_114 rfl (lv_at hl 0 rfl) ?_
      refine pV hx hb hml hts hown hE kwL_17 (c_xtrades E ow1 x h0 h1 fx PF.1 H4 hX1 pv2 hKn) hO1 rfl (Nat.le_of_ble_eq_true rfl) rfl hl.1 rfl (Nat.le_of_ble_eq_true rfl) (by omega) (by omega) dL_isPressed_115 ?_
      refine lv_icmp_ge (tgt := 218) hx hb dL_isPressed_118 (by decide) (fun q1 => ?_) (fun q1 => ?_)
      · exact absurd q1 (nI_ge hlt (by omega))
      refine lv_iload hx hb dL_isPressed_121 (lv_at hl 4 rfl) ?_
      refine lv_if_eq (tgt := 218) hx hb dL_isPressed_123 (by decide) (fun q2 => ?_) (fun q2 => ?_)
      · exact absurd q2 (by decide)
      refine lv_iconst (v := 0) hx hb dL_isPressed_126 (by decide) ?_
      refine lv_istore (lv' := [(13, .int 0), (0, .ref x), (1, .ref pe), (2, .int (nI d)), (3, .int (nI a)), (11, .int 1), (12, .int (nI i))]) hx hb dL_isPressed_127 hl (by decide) rfl (fun ls hl => ?_)
      have loop3 : ∀ (r k c8 s8 : Nat) (locs : List Loc) (ls : Array Slot), k + r = np tr → c8 + 10 * r ≤ c9 + 100 → s8 + 60 * r ≤ s9 + 600 → va_S (fr E) s.heap H4 locs → lv_has ls 14 [(0, .ref x), (1, .ref pe), (2, .int (nI d)), (3, .int (nI a)), (11, .int 1), (12, .int (nI i)), (13, .int (nI k))] → W p (eL E) e (rmk 11 (1100 + 4 * PF.2.2.1) (6300 + D * PF.2.2.1)) s m ([.ref x, .ref pe, .int (nI d), .int (nI a)]).toArray below meth co H4 locs c8 s8 (MQ below (CQ E (o1 (some (.int 1)) (fun H' => XOut E ow x h0 h1 fx PF.1 H H'))) ([.ref x, .ref pe, .int (nI d), .int (nI a)]).toArray s (1100 + 4 * PF.2.2.1) (6300 + D * PF.2.2.1) (fr E)) (F0 m 129 ls []) := by
        intro r
        induction r with
        | zero =>
          intro k c8 s8 locs ls hk h8 h7 hS hl
          have hk : k = np tr := hk
          refine lv_iload hx hb dL_isPressed_129 (lv_at hl 6 rfl) ?_
          refine lv_aload_n hx hb dL_isPressed_131 rfl (lv_at hl 1 rfl) ?_
          refine lv_iload hx hb dL_isPressed_132 (lv_at hl 5 rfl) ?_
          refine aI hx hb hE hA1 rfl (by omega) (by omega) hpt dL_isPressed_134 ?_
          refine lv_icmp_ge (tgt := 212) hx hb dL_isPressed_135 (by decide) (fun q2 => ?_) (fun q2 => ?_)
          rotate_left
          · exact absurd (nI_le (by omega) (by omega)) q2
          refine lv_iinc (v := nI (i + 1)) (lv' := [(12, .int (nI (i + 1))), (0, .ref x), (1, .ref pe), (2, .int (nI d)), (3, .int (nI a)), (11, .int 1), (13, .int (nI k))]) hx hb dL_isPressed_212 hl (k := 5) rfl (nI_1 i) (by decide) rfl (fun ls hl => ?_)
          refine lv_goto (tgt := 112) hx hb dL_isPressed_215 (by decide) ?_
          exact ih (i + 1) c8 s8 locs ls hd2 (by omega) (by omega) (by omega) hS (lv_sub hl [1, 2, 3, 4, 5, 0] rfl)
        | succ r ih3 =>
          intro k c8 s8 locs ls hk h8 h7 hS hl
          have hlk : k < np tr := by omega
          refine lv_iload hx hb dL_isPressed_129 (lv_at hl 6 rfl) ?_
          refine lv_aload_n hx hb dL_isPressed_131 rfl (lv_at hl 1 rfl) ?_
          refine lv_iload hx hb dL_isPressed_132 (lv_at hl 5 rfl) ?_
          refine aI hx hb hE hA1 rfl (by omega) (by omega) hpt dL_isPressed_134 ?_
          refine lv_icmp_ge (tgt := 212) hx hb dL_isPressed_135 (by decide) (fun q2 => ?_) (fun q2 => ?_)
          · exact absurd q2 (nI_ge hlk (by omega))
          refine lv_iload hx hb dL_isPressed_138 (lv_at hl 4 rfl) ?_
          refine lv_if_eq (tgt := 212) hx hb dL_isPressed_140 (by decide) (fun q3 => ?_) (fun q3 => ?_)
          · exact absurd q3 (by decide)
          refine lv_aload_n hx hb dL_isPressed_143 rfl (lv_at hl 0 rfl) ?_
          refine lv_iload hx hb dL_isPressed_144 (lv_at hl 5 rfl) ?_
          refine lv_iload hx hb dL_isPressed_146 (lv_at hl 6 rfl) ?_
          refine gV hx hb hml hts hown hB hE hS kwL_39 (n_lots hX1 pv2 hKn ht hlk) hO1 rfl (Nat.le_of_ble_eq_true rfl) rfl hl.1 rfl (Nat.le_of_ble_eq_true rfl) (by omega) (by omega) dL_isPressed_148 (fun H8 L8 hG hz8 hE hS => ?_)
          have hG := hG.symm
          subst hG
          refine lv_if_lt (tgt := 203) hx hb dL_isPressed_151 (by decide) (fun q4 => ?_) (fun q4 => ?_)
          · exact absurd q4 (lot_ge hT hGB _ _)
          refine lv_iload hx hb dL_isPressed_154 (lv_at hl 6 rfl) ?_
          refine lv_if_eq (tgt := 180) hx hb dL_isPressed_156 (by decide) (fun q5 => ?_) (fun q5 => ?_)
          · refine lv_aload_n hx hb dL_isPressed_180 rfl (lv_at hl 0 rfl) ?_
            refine lv_iload hx hb dL_isPressed_181 (lv_at hl 5 rfl) ?_
            refine lv_iload hx hb dL_isPressed_183 (lv_at hl 6 rfl) ?_
            refine gV hx hb hml hts hown hB hE hS kwL_42 (n_start hX1 pv2 hKn ht hlk) hO1 rfl (Nat.le_of_ble_eq_true rfl) rfl hl.1 rfl (Nat.le_of_ble_eq_true rfl) (by omega) (by omega) dL_isPressed_185 (fun H9 L9 hG hz9 hE hS => ?_)
            have hG := hG.symm
            subst hG
            refine lv_aload_n hx hb dL_isPressed_188 rfl (lv_at hl 0 rfl) ?_
            refine lv_iload hx hb dL_isPressed_189 (lv_at hl 5 rfl) ?_
            refine lv_iload hx hb dL_isPressed_191 (lv_at hl 6 rfl) ?_
            refine gV hx hb hml hts hown hB hE hS kwL_21 (n_end hX1 pv2 hKn ht hlk) hO1 rfl (Nat.le_of_ble_eq_true rfl) rfl hl.1 rfl (Nat.le_of_ble_eq_true rfl) (by omega) (by omega) dL_isPressed_193 (fun H10 L10 hG hz10 hE hS => ?_)
            have hG := hG.symm
            subst hG
            refine lv_icmp_gt (tgt := 203) hx hb dL_isPressed_196 (by decide) (fun q8 => ?_) (fun q8 => ?_)
            · exact absurd q8 (Int32.not_lt.mpr (bfC_mono pv2 hT (Nat.le_succ k) (by omega)))
            refine lv_iconst (v := 1) hx hb dL_isPressed_199 (by decide) ?_
            refine lv_goto (tgt := 204) hx hb dL_isPressed_200 (by decide) ?_
            refine lv_istore (lv' := [(11, .int 1), (0, .ref x), (1, .ref pe), (2, .int (nI d)), (3, .int (nI a)), (12, .int (nI i)), (13, .int (nI k))]) hx hb dL_isPressed_204 hl (by decide) rfl (fun ls hl => ?_)
            refine lv_iinc (v := nI (k + 1)) (lv' := [(13, .int (nI (k + 1))), (11, .int 1), (0, .ref x), (1, .ref pe), (2, .int (nI d)), (3, .int (nI a)), (12, .int (nI i))]) hx hb dL_isPressed_206 hl (k := 6) rfl (nI_1 k) (by decide) rfl (fun ls hl => ?_)
            refine lv_goto (tgt := 129) hx hb dL_isPressed_209 (by decide) ?_
            exact ih3 (k + 1) _ _ L10 ls (by omega) (by omega) (by omega) hS (lv_sub hl [2, 3, 4, 5, 1, 6, 0] rfl)
          · have hk0 : 1 ≤ k := by rcases Nat.eq_zero_or_pos k with e0 | e0; exact absurd (by rw [e0]; rfl) q5; exact e0
            refine lv_aload_n hx hb dL_isPressed_159 rfl (lv_at hl 0 rfl) ?_
            refine lv_iload hx hb dL_isPressed_160 (lv_at hl 5 rfl) ?_
            refine lv_iload hx hb dL_isPressed_162 (lv_at hl 6 rfl) ?_
            refine gV hx hb hml hts hown hB hE hS kwL_39 (n_lots hX1 pv2 hKn ht hlk) hO1 rfl (Nat.le_of_ble_eq_true rfl) rfl hl.1 rfl (Nat.le_of_ble_eq_true rfl) (by omega) (by omega) dL_isPressed_164 (fun H9 L9 hG hz9 hE hS => ?_)
            have hG := hG.symm
            subst hG
            refine lv_aload_n hx hb dL_isPressed_167 rfl (lv_at hl 0 rfl) ?_
            refine lv_iload hx hb dL_isPressed_168 (lv_at hl 5 rfl) ?_
            refine lv_iload hx hb dL_isPressed_170 (lv_at hl 6 rfl) ?_
            refine lv_iconst (v := 1) hx hb dL_isPressed_172 (by decide) ?_
            refine lv_isub hx hb dL_isPressed_173 ?_
            rw [show nI k - 1 = nI (k - 1) from nI_sub hk0]
            refine gV hx hb hml hts hown hB hE hS kwL_39 (n_lots hX1 pv2 hKn ht (k := k - 1) (by omega)) hO1 rfl (Nat.le_of_ble_eq_true rfl) rfl hl.1 rfl (Nat.le_of_ble_eq_true rfl) (by omega) (by omega) dL_isPressed_174 (fun H10 L10 hG hz10 hE hS => ?_)
            have hG := hG.symm
            subst hG
            refine lv_icmp_gt (tgt := 203) hx hb dL_isPressed_177 (by decide) (fun q6 => ?_) (fun q6 => ?_)
            · exact absurd q6 (Int32.not_lt.mpr (lot_mono hT hGB _ (bfC_mono pv2 hT (by omega) (by omega))))
            refine lv_aload_n hx hb dL_isPressed_180 rfl (lv_at hl 0 rfl) ?_
            refine lv_iload hx hb dL_isPressed_181 (lv_at hl 5 rfl) ?_
            refine lv_iload hx hb dL_isPressed_183 (lv_at hl 6 rfl) ?_
            refine gV hx hb hml hts hown hB hE hS kwL_42 (n_start hX1 pv2 hKn ht hlk) hO1 rfl (Nat.le_of_ble_eq_true rfl) rfl hl.1 rfl (Nat.le_of_ble_eq_true rfl) (by omega) (by omega) dL_isPressed_185 (fun H11 L11 hG hz11 hE hS => ?_)
            have hG := hG.symm
            subst hG
            refine lv_aload_n hx hb dL_isPressed_188 rfl (lv_at hl 0 rfl) ?_
            refine lv_iload hx hb dL_isPressed_189 (lv_at hl 5 rfl) ?_
            refine lv_iload hx hb dL_isPressed_191 (lv_at hl 6 rfl) ?_
            refine gV hx hb hml hts hown hB hE hS kwL_21 (n_end hX1 pv2 hKn ht hlk) hO1 rfl (Nat.le_of_ble_eq_true rfl) rfl hl.1 rfl (Nat.le_of_ble_eq_true rfl) (by omega) (by omega) dL_isPressed_193 (fun H12 L12 hG hz12 hE hS => ?_)
            have hG := hG.symm
            subst hG
            refine lv_icmp_gt (tgt := 203) hx hb dL_isPressed_196 (by decide) (fun q8 => ?_) (fun q8 => ?_)
            · exact absurd q8 (Int32.not_lt.mpr (bfC_mono pv2 hT (Nat.le_succ k) (by omega)))
            refine lv_iconst (v := 1) hx hb dL_isPressed_199 (by decide) ?_
            refine lv_goto (tgt := 204) hx hb dL_isPressed_200 (by decide) ?_
            refine lv_istore (lv' := [(11, .int 1), (0, .ref x), (1, .ref pe), (2, .int (nI d)), (3, .int (nI a)), (12, .int (nI i)), (13, .int (nI k))]) hx hb dL_isPressed_204 hl (by decide) rfl (fun ls hl => ?_)
            refine lv_iinc (v := nI (k + 1)) (lv' := [(13, .int (nI (k + 1))), (11, .int 1), (0, .ref x), (1, .ref pe), (2, .int (nI d)), (3, .int (nI a)), (12, .int (nI i))]) hx hb dL_isPressed_206 hl (k := 6) rfl (nI_1 k) (by decide) rfl (fun ls hl => ?_)
            refine lv_goto (tgt := 129) hx hb dL_isPressed_209 (by decide) ?_
            exact ih3 (k + 1) _ _ L12 ls (by omega) (by omega) (by omega) hS (lv_sub hl [2, 3, 4, 5, 1, 6, 0] rfl)
      exact loop3 (np tr) 0 c9 s9 locs ls (by omega) (by omega) (by omega) hS (lv_sub hl [1, 2, 3, 4, 5, 6, 0] rfl)
  exact loop2 PF.1 0 ((((((((0 + 3) + 3) + 3) + (1 + 4 * PF.2.2.1)) + 3) + 3) + 3)) ((((((((0 + 18) + 18) + 18) + (6 + D * PF.2.2.1)) + 18) + 18) + 18)) L7 ls rfl (Nat.zero_le _) (by omega) (by omega) hS (lv_sub hl [6, 7, 8, 9, 1, 0] rfl)
end
