section STP
variable {p : Program} {l : Launch} {e : Env} {R : Room} {s : State} {m : MethodId} {args : Array Value} {below : List Frame} {meth : Method} {c : Code} {H H0 : Heap} {locs : List Loc} {cells slots : Nat} {Q : State → Prop}
variable {cc : ByteArray} {pc nL : Nat} {ls : Array Slot} {rest : List Value} {E : ET} {own : String}
/-! ends of methods that leave the heap -/
theorem pI {v w : Int32} (hx : p.tables.exec = Jvm.exec) (hb : c.code = cc) (hr : meth.sig.returnType = some .int) (hlk : meth.locks = false) (hH : s.heap = H) (he : v = w) (hdg : decode cc pc = .ok (.ireturn, 1)) : W p l e R s m args below meth c H [] 0 0 (MQ below (PQ (some (.int w))) args s 0 0 (fun _ => False)) (F0 m pc ls [.int v]) := by
  subst he
  exact W.iret hx hb hr (fun t ht hW => ⟨rfl, by rw [ht, hH]⟩) (fun q h => by cases h) hdg hlk
theorem nrwZ {b : Bool} : narrow .boolean (.int (if b then 1 else 0)) = .int (if b then 1 else 0) := by cases b <;> rfl
theorem pZ {v : Int32} {b : Bool} (hx : p.tables.exec = Jvm.exec) (hb : c.code = cc) (hr : meth.sig.returnType = some .boolean) (hlk : meth.locks = false) (hH : s.heap = H) (he : v = if b then 1 else 0) (hdg : decode cc pc = .ok (.ireturn, 1)) : W p l e R s m args below meth c H [] 0 0 (MQ below (PQ (some (.int (if b then 1 else 0)))) args s 0 0 (fun _ => False)) (F0 m pc ls [.int v]) := by
  subst he
  exact W.zret hx hb hr nrwZ (fun t ht hW => ⟨rfl, by rw [ht, hH]⟩) (fun q h => by cases h) hdg hlk
theorem pL {v w : Int64} (hx : p.tables.exec = Jvm.exec) (hb : c.code = cc) (hr : meth.sig.returnType = some .long) (hlk : meth.locks = false) (hH : s.heap = H) (he : v = w) (hdg : decode cc pc = .ok (.lreturn, 1)) : W p l e R s m args below meth c H [] 0 0 (MQ below (PQ (some (.long w))) args s 0 0 (fun _ => False)) (F0 m pc ls [.long v]) := by
  subst he
  exact W.lret hx hb hr (fun t ht hW => ⟨rfl, by rw [ht, hH]⟩) (fun q h => by cases h) hdg hlk
theorem pA {v w : Value} {rt : FieldType} (hx : p.tables.exec = Jvm.exec) (hb : c.code = cc) (hr : meth.sig.returnType = some rt) (hrt : (∃ n, rt = .object n) ∨ ∃ t, rt = .array t) (hv : v = .null ∨ ∃ a, v = .ref a) (hlk : meth.locks = false) (hH : s.heap = H) (he : v = w) (hdg : decode cc pc = .ok (.areturn, 1)) : W p l e R s m args below meth c H [] 0 0 (MQ below (PQ (some w)) args s 0 0 (fun _ => False)) (F0 m pc ls [v]) := by
  subst he
  exact W.aret hx hb hr hrt hv (fun t ht hW => ⟨rfl, by rw [ht, hH]⟩) (fun q h => by cases h) hdg hlk
theorem pU (hx : p.tables.exec = Jvm.exec) (hb : c.code = cc) (hr : meth.sig.returnType = none) (hlk : meth.locks = false) (hH : s.heap = H) (hdg : decode cc pc = .ok (.return_, 1)) : W p l e R s m args below meth c H [] 0 0 (MQ below (PQ none) args s 0 0 (fun _ => False)) (F0 m pc ls []) :=
  W.vret hx hb hr (fun t ht hW => ⟨rfl, by rw [ht, hH]⟩) (fun q h => by cases h) hdg hlk
/-! ends of methods that change it -/
theorem CQ.of {out : Option Value → Heap → Prop} {v : Option Value} {t : State} {a : Array Value} (hB : eB E ≤ s.heap.size) (hS : va_S (fr E) s.heap H locs) (ho : out v H) (ht : t.heap = H) : CQ E out a s (.returned v) t := by
  subst ht
  exact ⟨v, rfl, ho, hS.1, fun q hq => hS.2.1 q (Nat.lt_of_lt_of_le hq hB) (Nat.not_le_of_lt hq)⟩
theorem cI {out : Option Value → Heap → Prop} {v : Int32} {mc ms : Nat} (hx : p.tables.exec = Jvm.exec) (hb : c.code = cc) (hr : meth.sig.returnType = some .int) (hlk : meth.locks = false) (hB : eB E ≤ s.heap.size) (hS : va_S (fr E) s.heap H locs) (hc : cells ≤ mc) (hs : slots ≤ ms) (ho : out (some (.int v)) H) (hdg : decode cc pc = .ok (.ireturn, 1)) : W p l e R s m args below meth c H locs cells slots (MQ below (CQ E out) args s mc ms (fr E)) (F0 m pc ls [.int v]) :=
  W.widen hc hs (W.iret hx hb hr (fun t ht hW => CQ.of hB hS ho ht) hS.2.2 hdg hlk)
theorem cZ {out : Option Value → Heap → Prop} {v : Int32} {mc ms : Nat} (hx : p.tables.exec = Jvm.exec) (hb : c.code = cc) (hr : meth.sig.returnType = some .boolean) (hlk : meth.locks = false) (hB : eB E ≤ s.heap.size) (hS : va_S (fr E) s.heap H locs) (hc : cells ≤ mc) (hs : slots ≤ ms) (hv : v = 0 ∨ v = 1) (ho : out (some (.int v)) H) (hdg : decode cc pc = .ok (.ireturn, 1)) : W p l e R s m args below meth c H locs cells slots (MQ below (CQ E out) args s mc ms (fr E)) (F0 m pc ls [.int v]) :=
  W.widen hc hs (W.zret hx hb hr (by rcases hv with rfl | rfl <;> rfl) (fun t ht hW => CQ.of hB hS ho ht) hS.2.2 hdg hlk)
theorem cL {out : Option Value → Heap → Prop} {v : Int64} {mc ms : Nat} (hx : p.tables.exec = Jvm.exec) (hb : c.code = cc) (hr : meth.sig.returnType = some .long) (hlk : meth.locks = false) (hB : eB E ≤ s.heap.size) (hS : va_S (fr E) s.heap H locs) (hc : cells ≤ mc) (hs : slots ≤ ms) (ho : out (some (.long v)) H) (hdg : decode cc pc = .ok (.lreturn, 1)) : W p l e R s m args below meth c H locs cells slots (MQ below (CQ E out) args s mc ms (fr E)) (F0 m pc ls [.long v]) :=
  W.widen hc hs (W.lret hx hb hr (fun t ht hW => CQ.of hB hS ho ht) hS.2.2 hdg hlk)
theorem cR {out : Option Value → Heap → Prop} {v : Value} {rt : FieldType} {mc ms : Nat} (hx : p.tables.exec = Jvm.exec) (hb : c.code = cc) (hr : meth.sig.returnType = some rt) (hrt : (∃ n, rt = .object n) ∨ ∃ t, rt = .array t) (hv : v = .null ∨ ∃ a, v = .ref a) (hlk : meth.locks = false) (hB : eB E ≤ s.heap.size) (hS : va_S (fr E) s.heap H locs) (hc : cells ≤ mc) (hs : slots ≤ ms) (ho : out (some v) H) (hdg : decode cc pc = .ok (.areturn, 1)) : W p l e R s m args below meth c H locs cells slots (MQ below (CQ E out) args s mc ms (fr E)) (F0 m pc ls [v]) :=
  W.widen hc hs (W.aret hx hb hr hrt hv (fun t ht hW => CQ.of hB hS ho ht) hS.2.2 hdg hlk)
theorem cU {out : Option Value → Heap → Prop} {mc ms : Nat} (hx : p.tables.exec = Jvm.exec) (hb : c.code = cc) (hr : meth.sig.returnType = none) (hlk : meth.locks = false) (hB : eB E ≤ s.heap.size) (hS : va_S (fr E) s.heap H locs) (hc : cells ≤ mc) (hs : slots ≤ ms) (ho : out none H) (hdg : decode cc pc = .ok (.return_, 1)) : W p l e R s m args below meth c H locs cells slots (MQ below (CQ E out) args s mc ms (fr E)) (F0 m pc ls []) :=
  W.widen hc hs (W.vret hx hb hr (fun t ht hW => CQ.of hB hS ho ht) hS.2.2 hdg hlk)
/-! getfield -/
def LK (own : String) (idx : Nat) (C : String) (T : u_T) (N ci k : Nat) (ref : String) : Prop := (∀ w ∈ u_ws C T N, w ∈ Tw) ∧ vwCl[ci]? = some (C, T, N) ∧ k < N ∧ Cond.fieldLink own idx ref (T k).2.1 (T k).2.2.1 ∈ Tw ∧ ((T k).1 = ref ∨ Cond.sameField ref (T k).1 (T k).2.1 (T k).2.2.1 ∈ Tw)
theorem LK.same {idx : Nat} {C : String} {T : u_T} {N ci k : Nat} {ref : String} (h : LK own idx C T N ci k ref) (hts : ∀ w ∈ Tw, w.before args s = true) : ∀ x, s.fieldFound? (T k).1 (T k).2.1 (T k).2.2.1 = some x → s.fieldFound? ref (T k).2.1 (T k).2.2.1 = some x := by
  intro x hx
  rcases h.2.2.2.2 with h | h
  · rw [← h]; exact hx
  · exact u_same (hts _ h) x hx
theorem gf {idx : Nat} {C : String} {T : u_T} {N ci k : Nat} {ref : String} {fs : List Value} {a : Nat} {v : Value} (hx : p.tables.exec = Jvm.exec) (hb : c.code = cc) (hts : ∀ w ∈ Tw, w.before args s = true) (hown : s.vm.findClass own = some m.cls) (hE : EV E s H) (hlk : LK own idx C T N ci k ref) (hO : OB E ci fs a H) (hv : fs[k]? = some v) (hdg : decode cc pc = .ok (.getfield idx, 3))
    (kk : W p l e R s m args below meth c H locs cells slots Q (F0 m (pc + 3) ls (v :: rest))) : W p l e R s m args below meth c H locs cells slots Q (F0 m pc ls (.ref a :: rest)) :=
  va_get hx hb hts hlk.1 hown hE.K hO 0 rfl hlk.2.1 k hlk.2.2.1 (hts _ hlk.2.2.2.1) (hlk.same hts) hv hdg kk
/-! calls of methods that leave the heap -/
theorem wm_good {y : MethodName} {b : ByteArray} {mL : Nat} {ret : Option FieldType} (h : Cond.code y b mL ret ∈ Tw) : GoodIn Tw (wm y b mL ret) := fun w hw => by
  rcases List.mem_cons.mp hw with rfl | hw
  · exact ⟨h, good_of_word (tw_good h)⟩
  · exact ⟨hw, good_of_word (tw_good hw)⟩
def okc (y : MethodName) (n : Nat) : Prop := y.cls ≠ "java/lang/invoke/MethodHandle" ∧ y.cls ≠ "java/lang/invoke/VarHandle" ∧ (parseMethodDescriptor y.desc).map (fun d => d.parameters.length) = some n
def kwV (own : String) (idx : Nat) (y : MethodName) (b : ByteArray) (mL : Nat) (ret : Option FieldType) (n : Nat) : Prop := Cond.methodLink own idx y ∈ Tw ∧ Cond.instanceMethod y ∈ Tw ∧ Cond.selects y.cls y y ∈ Tw ∧ Cond.initialized y.cls ∈ Tw ∧ Cond.code y b mL ret ∈ Tw ∧ okc y n ∧ mL ≤ 21
def kwS (own : String) (idx : Nat) (y : MethodName) (b : ByteArray) (mL : Nat) (ret : Option FieldType) (n : Nat) : Prop := Cond.methodLink own idx y ∈ Tw ∧ Cond.static y ∈ Tw ∧ Cond.initialized y.cls ∈ Tw ∧ Cond.code y b mL ret ∈ Tw ∧ okc y n ∧ mL ≤ 21
def kwI (own : String) (idx : Nat) (y : MethodName) (b : ByteArray) (mL : Nat) (n : Nat) : Prop := Cond.methodLink own idx y ∈ Tw ∧ Cond.instanceMethod y ∈ Tw ∧ Cond.initialized y.cls ∈ Tw ∧ Cond.code y b mL none ∈ Tw ∧ okc y n ∧ mL ≤ 21 ∧ y.name = "<init>"
theorem good1 {w : Cond} (h : w ∈ Tw) : w ∈ Tw ∧ ((w.onTables && w.keeps) = true ∨ ∃ ty, w = .arrayClass ty) := ⟨h, good_of_word (tw_good h)⟩
theorem cwV9 {k k' mc ms mc' ms' : Nat} {idx : Nat} {y : MethodName} {b : ByteArray} {mL : Nat} {ret : Option FieldType} {n : Nat} (hts : ∀ w ∈ Tw, w.before args s = true) (h : kwV own idx y b mL ret n) (hk : k' + 1 ≤ k) : CallW (rmk k mc ms) s args own y.cls idx y b mL ret (wm y b mL ret) (rmk k' mc' ms') mc' ms' n := by
  obtain ⟨h1, h2, h3, h4, h5, h6, h7⟩ := h
  refine cwV n hts (fun w hw => ?_) rfl rfl rfl ⟨rfl, h6⟩ ⟨hk, ?_⟩
  · simp only [wsV, List.cons_append, List.nil_append] at hw
    rcases List.mem_cons.mp hw with rfl | hw
    · exact good1 h1
    rcases List.mem_cons.mp hw with rfl | hw
    · exact good1 h2
    rcases List.mem_cons.mp hw with rfl | hw
    · exact good1 h3
    rcases List.mem_cons.mp hw with rfl | hw
    · exact good1 h4
    · exact wm_good h5 w hw
  · show 8 + (mL + 11) + 40 * k' ≤ 40 * k
    omega
theorem cwS9 {k k' mc ms mc' ms' : Nat} {idx : Nat} {y : MethodName} {b : ByteArray} {mL : Nat} {ret : Option FieldType} {n : Nat} (hts : ∀ w ∈ Tw, w.before args s = true) (h : kwS own idx y b mL ret n) (hk : k' + 1 ≤ k) : CallB (rmk k mc ms) s args own idx y b mL ret (wm y b mL ret) (rmk k' mc' ms') mc' ms' n ∧ (Cond.static y).before args s = true := by
  obtain ⟨h1, h2, h4, h5, h6, h7⟩ := h
  refine va_cwS n hts (fun w hw => ?_) rfl rfl rfl h6 ⟨hk, ?_⟩
  · simp only [va_wsS, List.cons_append, List.nil_append] at hw
    rcases List.mem_cons.mp hw with rfl | hw
    · exact good1 h1
    rcases List.mem_cons.mp hw with rfl | hw
    · exact good1 h2
    rcases List.mem_cons.mp hw with rfl | hw
    · exact good1 h4
    · exact wm_good h5 w hw
  · show 8 + (mL + 11) + 40 * k' ≤ 40 * k
    omega
theorem cwI9 {k k' mc ms mc' ms' : Nat} {idx : Nat} {y : MethodName} {b : ByteArray} {mL : Nat} {n : Nat} (hts : ∀ w ∈ Tw, w.before args s = true) (h : kwI own idx y b mL n) (hk : k' + 1 ≤ k) : CallB (rmk k mc ms) s args own idx y b mL none (wm y b mL none) (rmk k' mc' ms') mc' ms' n ∧ y.name = "<init>" ∧ (Cond.instanceMethod y).before args s = true := by
  obtain ⟨h1, h2, h4, h5, h6, h7, h8⟩ := h
  refine cwI n hts (wm_good h5) rfl rfl rfl (hts _ h4) (hts _ h1) (hts _ h2) h8 h6 ⟨hk, ?_⟩
  show 8 + (mL + 11) + 40 * k' ≤ 40 * k
  omega
theorem recv9 {ci : Nat} {fs : List Value} {a : Nat} {C : String} {T : u_T} {N : Nat} (hE : EV E s H) (hO : OB E ci fs a H) (hc : vwCl[ci]? = some (C, T, N)) : ∃ cell : Cell, H[a]? = some cell ∧ cell.vm.isStatics = false ∧ s.vm.findClass C = some cell.cls := va_recv (q := (C, T, N)) hE.K hO hc (q0 := 0) rfl
/-- behind a call that left the heap -/
theorem pk_go {g : JFrame} {v : Value} {a : Array Value} {pc : Nat} {st0 : List Value} (hr : va_Run p l e R s m args below meth c H locs cells slots 0 0 (F0 m pc ls st0) rest (PQ (some v) a) (fun _ => False)) (kk : W p l e R s m args below meth c H locs cells slots Q (F0 m (pc + 3) ls (v :: rest))) : W p l e R s m args below meth c H locs cells slots Q (F0 m pc ls st0) := by
  intro T hT X
  obtain ⟨w, st₀, t, T', L, e0, X', hL, e1, e2, hq, hgo⟩ := hr T hT X
  obtain ⟨q1, q2⟩ := hq
  have hw : w = some v := by injection q1
  subst hw
  have hL0 : L = [] := by
    cases L with
    | nil => rfl
    | cons x xs => exact absurd (hL x List.mem_cons_self) (fun h => h)
  subst hL0
  rw [List.append_nil] at X'
  obtain ⟨t2, a1, b1⟩ := kk T' (by rw [e1, q2, e0]) X'
  exact ⟨t2, hgo t2 a1, b1⟩
theorem pk_goU {g : JFrame} {a : Array Value} {pc : Nat} {st0 : List Value} (hr : va_Run p l e R s m args below meth c H locs cells slots 0 0 (F0 m pc ls st0) rest (PQ none a) (fun _ => False)) (kk : W p l e R s m args below meth c H locs cells slots Q (F0 m (pc + 3) ls rest)) : W p l e R s m args below meth c H locs cells slots Q (F0 m pc ls st0) := by
  intro T hT X
  obtain ⟨w, st₀, t, T', L, e0, X', hL, e1, e2, hq, hgo⟩ := hr T hT X
  obtain ⟨q1, q2⟩ := hq
  have hw : w = none := by injection q1
  subst hw
  have hL0 : L = [] := by
    cases L with
    | nil => rfl
    | cons x xs => exact absurd (hL x List.mem_cons_self) (fun h => h)
  subst hL0
  rw [List.append_nil] at X'
  obtain ⟨t2, a1, b1⟩ := kk T' (by rw [e1, q2, e0]) X'
  exact ⟨t2, hgo t2 a1, b1⟩
end STP
