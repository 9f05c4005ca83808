/-! OWN LAYER: the launch's facts, contracts that leave the heap as it is, contracts that change it, contracts that throw. -/
abbrev ET : Type := Launch × va_G × (Nat → ClassId) × Nat × Nat × Nat
abbrev eL (E : ET) : Launch := E.1
abbrev eD (E : ET) : va_G := E.2.1
abbrev eA (E : ET) : Nat → ClassId := E.2.2.1
abbrev eB (E : ET) : Nat := E.2.2.2.1
abbrev eF (E : ET) : Nat := E.2.2.2.2.1
abbrev eM (E : ET) : Nat := E.2.2.2.2.2
abbrev tyL (E : ET) : List (ClassId × FieldType) := [(eA E 0, .int), (eA E 0, .int), (eA E 2, .object "java/lang/Object")]
abbrev fr (E : ET) : Nat → Prop := fun q => eB E ≤ q
abbrev OB (E : ET) (ci : Nat) (fs : List Value) (a : Nat) (H : Heap) : Prop := va_P (eD E) vwCl [(a, .inr (ci, fs))] H
abbrev IA (E : ET) (n : Nat) (f : Nat → Int32) (a : Nat) (H : Heap) : Prop := va_P (eD E) vwCl [(a, .inl (eA E 0, n, .inl f))] H
abbrev QA (E : ET) (n : Nat) (f : Nat → Option Nat) (a : Nat) (H : Heap) : Prop := va_P (eD E) vwCl [(a, .inl (eA E 2, n, .inr (.inr (.inr (.inr f)))))] H
theorem pk1 {E : ET} {a : Nat} {x : va_E} {H H1 : Heap} (h : va_P (eD E) vwCl [(a, x)] H) (hq : H1[a]? = H[a]?) : va_P (eD E) vwCl [(a, x)] H1 := h.kept (fun k q hk => by
  cases k with
  | zero => cases hk; exact hq
  | succ k => cases hk)
theorem plt {E : ET} {a : Nat} {x : va_E} {H : Heap} (h : va_P (eD E) vwCl [(a, x)] H) : a < H.size := (h 0 _ rfl).lt
def strL : List (Nat × String) := [(32, "no such town"), (178, "an argument is out of range"), (55, "the town has this holiday, or no room for it"), (72, "no room for another fixing"), (186, "no such party"), (88, "no room for another trade"), (188, "no such trade"), (124, "the rest of the trade is less than that"), (129, "the trade was handed over too often"), (193, "no such period")]
abbrev xI : String := "java/lang/IndexOutOfBoundsException"
abbrev xA : String := "java/lang/IllegalArgumentException"
abbrev xS : String := "java/lang/IllegalStateException"
abbrev xO : String := "java/lang/Object"
def casL : List (String × String) := [(RX2, xO), (RX3, xO), (xI, xI), (xA, xA), (xS, xS)]
def ncL : List (String × String) := []
theorem nwC_moved {C T : String} {u U : State} (hvm : u.vm.Alike U.vm) (h : va_Nw (.castable C T) u) : va_Nw (.castable C T) U := va_tabs rfl (rfl : (u.setVm U.vm).vm = U.vm) (by rw [Cond.castable_setVm hvm]; exact h)
theorem nwD_moved {y : MethodName} {u U : State} (hvm : u.vm.Alike U.vm) (h : va_Nw (.declares y) u) : va_Nw (.declares y) U := va_tabs rfl (rfl : (u.setVm U.vm).vm = U.vm) (by rw [Cond.declares_setVm hvm]; exact h)
def decL : List MethodName := [⟨"java/lang/RuntimeException", "<init>", "(Ljava/lang/String;)V"⟩, ⟨"java/lang/Exception", "<init>", "(Ljava/lang/String;)V"⟩, ⟨"java/lang/Throwable", "<init>", "(Ljava/lang/String;)V"⟩]
/-- the empty array of the JDK: nothing is known of it but its class and that it has no element -/
def E0 (E : ET) (a : Nat) (H : Heap) : Prop := ∃ cell : Cell, H[a]? = some cell ∧ cell.cls = eA E 2 ∧ (∀ k, cell.vm ≠ .statics k) ∧ cell.slots.size.toInt32 = 0
theorem E0.pk {E : ET} {a : Nat} {H H1 : Heap} (h : E0 E a H) (hq : H1[a]? = H[a]?) : E0 E a H1 := by
  obtain ⟨c, h1, h2⟩ := h
  exact ⟨c, hq.trans h1, h2⟩
/-- an array of references, or that one -/
def QB (E : ET) (n : Nat) (f : Nat → Option Nat) (a : Nat) (H : Heap) : Prop := QA E n f a H ∨ (n = 0 ∧ E0 E a H)
theorem QB.of {E : ET} {n a : Nat} {f : Nat → Option Nat} {H : Heap} (h : QA E n f a H) : QB E n f a H := Or.inl h
theorem QB.qa {E : ET} {n a : Nat} {f : Nat → Option Nat} {H : Heap} (h : QB E n f a H) (hn : 0 < n) : QA E n f a H := h.resolve_right (fun q => by omega)
theorem QB.pk {E : ET} {n a : Nat} {f : Nat → Option Nat} {H H1 : Heap} (h : QB E n f a H) (hq : H1[a]? = H[a]?) : QB E n f a H1 := h.imp (fun g => pk1 g hq) (fun g => ⟨g.1, g.2.pk hq⟩)
theorem QB.lt {E : ET} {n a : Nat} {f : Nat → Option Nat} {H : Heap} (h : QB E n f a H) : a < H.size := by
  rcases h with h | ⟨-, c, h, -⟩
  · exact plt h
  · exact (Array.getElem?_eq_some_iff.mp h).1
/-- what every method is told: the classes as the tables have them, the statics of the JDK that are read, the texts, below the cell eB all that was there before the law -/
def EV (E : ET) (U : State) (H : Heap) : Prop :=
  va_K (eD E) vwCl (tyL E) U ∧ eB E ≤ H.size ∧ eF E < eB E ∧ E0 E (eF E) H ∧ va_Z "java/util/ArrayList" "DEFAULTCAPACITY_EMPTY_ELEMENTDATA" "[Ljava/lang/Object;" (.ref (eF E)) (fr E) U H ∧ vx_Zq Bundle.tN "UNASSIGNED_STACK" Bundle.steD (fr E) U H ∧ vx_Zq Bundle.tN "SUPPRESSED_SENTINEL" Bundle.listD (fr E) U H ∧ (eL E).stackTraces = false ∧ (∀ q ∈ strL, ∃ a, vk_R RX4 q.1 q.2 a U) ∧ (∀ q ∈ casL, va_Nw (.castable q.1 q.2) U) ∧ (∀ q ∈ ncL, va_Nc q.1 q.2 U) ∧ va_Mi "[Ljava/lang/Object;" (eM E) U ∧ va_Dc U ∧ va_AO xO U ∧ (∀ y ∈ decL, va_Nw (.declares y) U)
theorem EV.alike {E : ET} {u U : State} {H : Heap} (hvm : u.vm.Alike U.vm) (hs : ∀ q ∈ strL, ∃ a, vk_R RX4 q.1 q.2 a U) (h : EV E u H) : EV E U H := by
  obtain ⟨h1, h2, h3, h4, h5, h6, h7, h8, h9, h10, h11, h12, h13, h14, h15⟩ := h
  exact ⟨va_K.moved hvm h1, h2, h3, h4, va_Z.moved hvm h5, vx_Zq.moved hvm h6, vx_Zq.moved hvm h7, h8, hs, fun q hq => nwC_moved hvm (h10 q hq), fun q hq => va_Nc.moved hvm (h11 q hq), va_Mi.moved hvm h12, va_Dc.moved hvm h13, va_AO.moved hvm h14, fun y hy => nwD_moved hvm (h15 y hy)⟩
theorem EV.warm {E : ET} {u U : State} {H : Heap} (hW : u.WarmedH U.vm) (h : EV E u H) : EV E U H := h.alike hW.alike (fun q hq => by
  obtain ⟨a, ha⟩ := h.2.2.2.2.2.2.2.2.1 q hq
  exact ⟨a, vk_R.warm hW ha⟩)
theorem EV.same {E : ET} {u U : State} {H : Heap} (hv : U.vm = u.vm) (h : EV E u H) : EV E U H := h.alike (by rw [hv]; exact Vm.Alike.refl _) (fun q hq => by
  obtain ⟨a, ha⟩ := h.2.2.2.2.2.2.2.2.1 q hq
  exact ⟨a, vk_R.same hv ha⟩)
theorem EV.kept {E : ET} {U : State} {H H1 : Heap} (h : EV E U H) (hs : H.size ≤ H1.size) (hq : ∀ q : Nat, q < eB E → H1[q]? = H[q]?) : EV E U H1 := by
  have hz : ∀ a : Nat, a < H.size → ¬ fr E a → H1[a]? = H[a]? := fun a _ ha => hq a (Nat.lt_of_not_le ha)
  obtain ⟨h1, h2, h3, h4, h5, h6, h7, h8⟩ := h
  exact ⟨h1, Nat.le_trans h2 hs, h3, h4.pk (hq _ h3), va_Z.kept h5 hz, vx_Zq.kept h6 hz, vx_Zq.kept h7 hz, h8⟩
theorem EV.K {E : ET} {U : State} {H : Heap} (h : EV E U H) : va_K (eD E) vwCl (tyL E) U := h.1
abbrev rmk (k mc ms : Nat) : Room := { frames := k, cells := mc, slots := ms, locals := 40 * k }
abbrev wm (y : MethodName) (b : ByteArray) (mL : Nat) (ret : Option FieldType) : List Cond := Cond.code y b mL ret :: Tw
def PC (E : ET) (av : List Value) (H : Heap) : Array Value → State → Prop := fun a U => a = av.toArray ∧ U.heap = H ∧ EV E U U.heap
theorem PC.blind {E : ET} {av : List Value} {H : Heap} : FrameBlind (PC E av H) := fun a U g mk q => ⟨q.1, q.2.1, EV.same (u := U) (U := U.calling g mk a) rfl q.2.2⟩
def PQ (v : Option Value) : Array Value → State → Outcome → State → Prop := fun _ st o t => o = .returned v ∧ t.heap = st.heap
def CQ (E : ET) (out : Option Value → Heap → Prop) : Array Value → State → Outcome → State → Prop := fun _ st o t => ∃ v, o = .returned v ∧ out v t.heap ∧ st.heap.size ≤ t.heap.size ∧ ∀ q : Nat, q < eB E → t.heap[q]? = st.heap[q]?
def XQ (E : ET) (bad : String → Prop) : String → State → State → Prop := fun X st t => bad X ∧ st.heap.size ≤ t.heap.size ∧ ∀ q : Nat, q < st.heap.size → t.heap[q]? = st.heap[q]?
/-- a method that leaves the heap as it is and answers v -/
abbrev PCon (E : ET) (y : MethodName) (b : ByteArray) (mL : Nat) (ret : Option FieldType) (k : Nat) (av : List Value) (H : Heap) (v : Option Value) : Prop := Met (eL E) y (wm y b mL ret) (rmk k 0 0) (PC E av H) (PQ v) 0 0 (fun _ => False)
/-- a method that changes the heap -/
abbrev Con (E : ET) (y : MethodName) (b : ByteArray) (mL : Nat) (ret : Option FieldType) (k mc ms : Nat) (av : List Value) (H : Heap) (out : Option Value → Heap → Prop) : Prop := Met (eL E) y (wm y b mL ret) (rmk k mc ms) (PC E av H) (CQ E out) mc ms (fr E)
/-- a method that may throw; what is there before it stays when it throws -/
abbrev XCon (E : ET) (y : MethodName) (b : ByteArray) (mL : Nat) (ret : Option FieldType) (k mc ms : Nat) (av : List Value) (H : Heap) (out : Option Value → Heap → Prop) (bad : String → Prop) : Prop := vx_Met (eL E) y (wm y b mL ret) (rmk k mc ms) (PC E av H) (CQ E out) (XQ E bad) mc ms (fr E)
theorem tw_hts {y : MethodName} {b : ByteArray} {mL : Nat} {ret : Option FieldType} {args : Array Value} {s : State} (h : (allAtoms (wm y b mL ret)).before args s = true) : ∀ w ∈ Tw, w.before args s = true := fun w hw => atoms_spec (ws := wm y b mL ret) h w (List.mem_cons_of_mem _ hw)
theorem PCon.of {E : ET} {y : MethodName} {b : ByteArray} {mL : Nat} {ret : Option FieldType} {k : Nat} {av : List Value} {H : Heap} {v : Option Value} {C : String} (hC : y.cls = C) (hy : plainName y.cls = true) (hn : (lg_sl av).length ≤ mL)
    (body : ∀ (p : Program) (e : Env) (s : State) (m : MethodId) (below : List Frame) (meth : Method) (c : Code) (ls : Array Slot), p.tables.exec = Jvm.exec → c.code = b → meth.sig.returnType = ret → meth.locks = false → c.maxLocals = mL → s.vm.findClass C = some m.cls → (∀ w ∈ Tw, w.before av.toArray s = true) → EV E s H → s.heap = H → lv_has ls mL (lv_args 0 av) →
      W p (eL E) e (rmk k 0 0) s m av.toArray below meth c H [] 0 0 (MQ below (PQ v) av.toArray s 0 0 (fun _ => False)) (F0 m 0 ls [])) : PCon E y b mL ret k av H v := by
  refine Met.ofW (cc := b) (maxL := mL) (ret := ret) hy rfl ?_
  intro p e s m args below meth c s₁ B hml hv
  obtain ⟨rfl, rfl, hE⟩ := hv
  subst hC
  have hl := lv_entry av hn
  rw [lg_entry_eq]
  exact body p e s m below meth c _ B.exec B.bytes B.returns B.notSynchronized hml (findClass_of_methodNamed B.named) (tw_hts B.pre) hE rfl hl
theorem Con.of {E : ET} {y : MethodName} {b : ByteArray} {mL : Nat} {ret : Option FieldType} {k mc ms : Nat} {av : List Value} {H : Heap} {out : Option Value → Heap → Prop} {C : String} (hC : y.cls = C) (hy : plainName y.cls = true) (hn : (lg_sl av).length ≤ mL)
    (body : ∀ (p : Program) (e : Env) (s : State) (m : MethodId) (below : List Frame) (meth : Method) (c : Code) (ls : Array Slot), p.tables.exec = Jvm.exec → c.code = b → meth.sig.returnType = ret → meth.locks = false → c.maxLocals = mL → s.vm.findClass C = some m.cls → (∀ w ∈ Tw, w.before av.toArray s = true) → meth.name = y.name → EV E s H → s.heap = H → va_S (fr E) s.heap H [] → lv_has ls mL (lv_args 0 av) →
      W p (eL E) e (rmk k mc ms) s m av.toArray below meth c H [] 0 0 (MQ below (CQ E out) av.toArray s mc ms (fr E)) (F0 m 0 ls [])) : Con E y b mL ret k mc ms av H out := by
  refine Met.ofW (cc := b) (maxL := mL) (ret := ret) hy rfl ?_
  intro p e s m args below meth c s₁ B hml hv
  obtain ⟨rfl, rfl, hE⟩ := hv
  subst hC
  have hl := lv_entry av hn
  rw [lg_entry_eq]
  exact body p e s m below meth c _ B.exec B.bytes B.returns B.notSynchronized hml (findClass_of_methodNamed B.named) (tw_hts B.pre) (name_of_methodNamed B.named B.method).1 hE rfl va_S.rf hl
theorem XCon.of {E : ET} {y : MethodName} {b : ByteArray} {mL : Nat} {ret : Option FieldType} {k mc ms : Nat} {av : List Value} {H : Heap} {out : Option Value → Heap → Prop} {bad : String → Prop} {C : String} (hC : y.cls = C) (hy : plainName y.cls = true) (hn : (lg_sl av).length ≤ mL)
    (body : ∀ (p : Program) (e : Env) (s : State) (m : MethodId) (below : List Frame) (meth : Method) (c : Code) (ls : Array Slot), p.tables.exec = Jvm.exec → c.code = b → meth.sig.returnType = ret → meth.locks = false → c.maxLocals = mL → s.vm.findClass C = some m.cls → (∀ w ∈ Tw, w.before av.toArray s = true) → (∀ x ∈ c.exceptionTable.toList, False) → EV E s H → s.heap = H → va_S (fr E) s.heap H [] → lv_has ls mL (lv_args 0 av) →
      W p (eL E) e (rmk k mc ms) s m av.toArray below meth c H [] 0 0 (vx_MQ below (CQ E out) (XQ E bad) av.toArray s mc ms (fr E)) (F0 m 0 ls [])) : XCon E y b mL ret k mc ms av H out bad := by
  refine vx_ofW (cc := b) (maxL := mL) (ret := ret) hy rfl ?_
  intro p e s m args below meth c s₁ B hml hxt hv
  obtain ⟨rfl, rfl, hE⟩ := hv
  subst hC
  have hl := lv_entry av hn
  rw [lg_entry_eq]
  exact body p e s m below meth c _ B.exec B.bytes B.returns B.notSynchronized hml (findClass_of_methodNamed B.named) (tw_hts B.pre) hxt hE rfl va_S.rf hl
