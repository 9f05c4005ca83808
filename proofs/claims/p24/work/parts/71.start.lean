/-! THE CLAIM OUT OF ONE WALK OF THE LAW'S BODY. Your part is whole_start (and what it stands on); all else here is the same for every law, but numbers. -/
def R_law : String := "ResetlineLaw"
def lw_P (b : Addr) (xs : List Int32) (args : Array Value) (s : State) : Prop := args = #[.ref b] ∧ s.IntsAt b xs ∧ xs.length ≤ 260 ∧ (Jvm.Cond.and given_1 narrow_1).before args s = true
def lw_Q (_ : Array Value) (s : State) (o : Outcome) (t : State) : Prop := o = .returned (some (.int 1)) ∧ Framed s o t [] 1173600 5581029
def lw_Z (below : List Frame) (a : Array Value) (s : State) : State → Prop := fun t => ∃ o, t.status = .running ∧ Ended t below o ∧ lw_Q a s o t
/-- the law's own end, with 1 on the stack, nothing written that was there before, its room as the claim has it -/
theorem lw_ret {p : Program} {l : Launch} {e : Env} {s : State} {m : MethodId} {below : List Frame} {meth : Method} {c : Code} {b : Nat} (hx : p.tables.exec = Jvm.exec) (hb : c.code = code) (hr : meth.sig.returnType = ret) (hlocks : meth.locks = false) {pc : Nat} {H : Heap} {ls : Array Slot} (hdg : decode code pc = .ok (.ireturn, 1)) : W p l e room_1 s m #[Value.ref b] below meth c H [] 1173600 5581029 (lw_Z below #[Value.ref b] s) (F0 m pc ls [.int 1]) := by
  intro T hT X
  obtain ⟨fs, hret, hrun, hended, hW, hframe⟩ := X.leave (v := some (.int 1)) (hlocks := hlocks) (fun h => by rw [hr] at h; cases h)
  have hmeth' : T.vm.method? m = some meth := X.method'
  refine ⟨T.setFrames fs, ?_, .returned (some (.int 1)), hrun, hended, rfl, ⟨_, rfl⟩, hW, hframe⟩
  jvm_step X.here [X.here.top, hx, hb, hdg, hmeth', hr, ret, narrow_b1]
  (try refine ⟨rfl, ?_⟩); (try refine ⟨rfl, ?_⟩)
  first | (intro acts; rw [hret _ acts rfl rfl rfl]) | rw [hret _ _ rfl rfl rfl]
  exact Steps.refl _
/-- what holds at the law's entry: the machine, the code, the tables' words (any of lw_tbl by 'hts w (by decide +kernel)'), the script of L ints xs at the cell b, what the Statement gives of the start (any of its parts by flat_of_before) -/
def lw_At (p : Program) (s : State) (m : MethodId) (meth : Method) (c : Code) (b L : Nat) (xs : Nat → Int32) : Prop :=
  p.tables.exec = Jvm.exec ∧ c.code = code ∧ meth.sig.returnType = ret ∧ c.maxLocals = 16 ∧ s.vm.findClass R_law = some m.cls ∧ (∀ w ∈ lw_tbl, w.before #[Value.ref b] s = true) ∧ va_X b L xs s s.heap ∧ b < s.heap.size ∧ meth.locks = false ∧ (Jvm.Cond.and given_1 narrow_1).before #[Value.ref b] s = true

theorem ev_start {p : Program} {s : State} {m : MethodId} {meth : Method} {c : Code} {b L : Nat} {xs : Nat → Int32} (l : Launch) (hflags : l.flags = flags0) (C0 : lw_At p s m meth c b L xs) : ∃ E : ET, eL E = l ∧ eB E = s.heap.size ∧ EV E s s.heap := by
  obtain ⟨hx, hb, hr, hml, hown, hts, hX, hbl, hlk, hgv⟩ := C0
  have hs := flat_of_before _ hgv
  have hT : ∀ w ∈ Tw, w.before #[Value.ref b] s = true := fun w hw => hts w (tw_lw hw)
  have hA : ∀ a : Nat, a < s.heap.size → ¬ s.heap.size ≤ a := fun a h => Nat.not_le.mpr h
  obtain ⟨c0, i0, k0⟩ := u_known hT iwJx4a65c (hT _ qw1_42)
  obtain ⟨c1, i1, k1⟩ := u_known hT iwX0 (hT _ qw1_30)
  obtain ⟨c2, i2, k2⟩ := u_known hT iwX1 (hT _ qw1_36)
  obtain ⟨c3, i3, k3⟩ := u_known hT iwX2 (hT _ qw1_238)
  obtain ⟨c4, i4, k4⟩ := u_known hT iwX3 (hT _ qw2_120)
  obtain ⟨c5, i5, k5⟩ := u_known hT iwX4 (hT _ qw1_22)
  obtain ⟨a0, ka0, cp0, fa0, ga0, ha0⟩ := Cond.arrayClass_spec (hT _ qw2_170)
  have hover : (Cond.arrayOver (.object "java/lang/Object")).before #[Value.ref b] s = true := hts _ (by decide +kernel)
  obtain ⟨cp2, a2, ka2, fo2, -, ga2, ha2, fa2⟩ := Cond.arrayOver_spec hover
  have hex : (Cond.exactly (Term.static "java/util/ArrayList" "DEFAULTCAPACITY_EMPTY_ELEMENTDATA" "[Ljava/lang/Object;") "[Ljava/lang/Object;").before #[Value.ref b] s = true := hs _ (by decide +kernel)
  have harr : (Cond.arrayOf (Term.static "java/util/ArrayList" "DEFAULTCAPACITY_EMPTY_ELEMENTDATA" "[Ljava/lang/Object;") (.object "java/lang/Object")).before #[Value.ref b] s = true := hs _ (by decide +kernel)
  have hlen : (Cond.eq (.length (Term.static "java/util/ArrayList" "DEFAULTCAPACITY_EMPTY_ELEMENTDATA" "[Ljava/lang/Object;")) (.int 0)).before #[Value.ref b] s = true := hs _ (by decide +kernel)
  obtain ⟨t, ht, cell, hcell, hof, hkn, -, hsz, -⟩ := va_Tof (N := 0) (f := fun _ => .null) (by decide) harr (va_eqt hlen) (fun j hj => absurd hj (Nat.not_lt_zero j)) hA
  obtain ⟨t9, c9, cell9, kk9, q1, q2, q3, q4, q5, q6, -⟩ := Cond.exactly_spec hex
  cases ht.symm.trans q1
  cases hcell.symm.trans q3
  have hc9 : c9 = a2 := Option.some.inj (q2.symm.trans fa2)
  obtain ⟨mi, hmi⟩ := va_Mi.of (C := "[Ljava/lang/Object;") (s := s) (args := #[Value.ref b]) (hs _ (by decide +kernel))
  let E : ET := (l, ((fun c => match c with | 0 => c0 | 1 => c1 | 2 => c2 | 3 => c3 | 4 => c4 | 5 => c5 | _ => c0), (fun c => match c with | 0 => i0 | 1 => i1 | 2 => i2 | 3 => i3 | 4 => i4 | 5 => i5 | _ => i0)), (fun k => match k with | 0 => a0 | _ => a2), s.heap.size, t, mi)
  refine ⟨E, rfl, rfl, ⟨fun c q hq => ?_, fun k q hq => ?_⟩, Nat.le_refl _, (Array.getElem?_eq_some_iff.mp hcell).1, ⟨cell, hcell, q6.trans hc9, hof.1, hsz⟩, va_Zref (hts _ (by decide +kernel)) (hT _ qw1_6) ht hA, vx_Zqof (hts _ (by decide +kernel)) (hT _ qw1_7) (hs _ (by decide +kernel)) hA, vx_Zqof (hts _ (by decide +kernel)) (hT _ qw1_7) (hs _ (by decide +kernel)) hA, by show (!l.flags.contains noTraceFlag) = false; rw [hflags]; decide, ?_, ?_, (fun q hq => by cases hq), hmi, va_Dc.of (hts _ (by decide +kernel)), va_AO.of hover, ?_⟩
  · rcases (show c = 0 ∨ c = 1 ∨ c = 2 ∨ c = 3 ∨ c = 4 ∨ c = 5 by have := (List.getElem?_eq_some_iff.mp hq).1; simp [vwCl] at this; omega) with e | e | e | e | e | e <;> subst e <;> cases hq
    · exact k0
    · exact k1
    · exact k2
    · exact k3
    · exact k4
    · exact k5
  · rcases (show k = 0 ∨ k = 1 ∨ k = 2 by have := (List.getElem?_eq_some_iff.mp hq).1; simp at this; omega) with e | e | e <;> subst e <;> cases hq
    · exact ⟨fun N z => ⟨(fun k h => by cases h), ka0, ga0, cp0, ha0⟩, fa0⟩
    · exact ⟨fun N z => ⟨(fun k h => by cases h), ka0, ga0, cp0, ha0⟩, fa0⟩
    · exact ⟨fun N z => ⟨(fun k h => by cases h), ka2, ga2, cp2, ha2⟩, ka2, cp2, ga2, ha2, fo2, fa2⟩
  · intro q hq
    have h1 : (Cond.stringRef RX4 q.1 q.2).before #[Value.ref b] s = true := by
      simp only [strL, List.mem_cons, List.not_mem_nil, or_false] at hq
      rcases hq with e | e | e | e | e | e | e | e | e | e <;> subst e <;> exact hts _ (by decide +kernel)
    have h3 : (Cond.exactly (.string RX4 q.1) "java/lang/String").before #[Value.ref b] s = true := by
      simp only [strL, List.mem_cons, List.not_mem_nil, or_false] at hq
      rcases hq with e | e | e | e | e | e | e | e | e | e <;> subst e <;> exact hs _ (by decide +kernel)
    obtain ⟨a, c2, cell2, k2, h2, -⟩ := Cond.exactly_spec h3
    exact ⟨a, vk_R.of h1 h2⟩
  · intro q hq
    simp only [casL, List.mem_cons, List.not_mem_nil, or_false] at hq
    rcases hq with e | e | e | e | e <;> subst e <;> exact va_any rfl (hts _ (by decide +kernel))
  · intro y hy
    simp only [decL, List.mem_cons, List.not_mem_nil, or_false] at hy
    rcases hy with e | e | e <;> subst e <;> exact va_any rfl (hts _ (by decide +kernel))
