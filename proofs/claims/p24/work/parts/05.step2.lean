section STP2
variable {p : Program} {e : Env} {R : Room} {s : State} {m : MethodId} {args : Array Value} {below : List Frame} {meth : Method} {c : Code} {H H0 : Heap} {locs : List Loc} {cells slots : Nat} {Q : State → Prop}
variable {cc : ByteArray} {pc nL : Nat} {ls : Array Slot} {rest st0 : List Value} {E : ET} {own : String}
variable {idx k k' mc ms n mL a ci N : Nat} {y : MethodName} {b : ByteArray} {ret : Option FieldType} {As : List Value} {v : Value} {fs : List Value} {T : u_T}
/-- a virtual call of a method that leaves the heap -/
theorem pV (hx : p.tables.exec = Jvm.exec) (hb : c.code = cc) (hml : c.maxLocals = nL) (hts : ∀ w ∈ Tw, w.before args s = true) (hown : s.vm.findClass own = some m.cls) (hE : EV E s H) (kw : kwV own idx y b mL ret n) (hM : PCon E y b mL ret k' (.ref a :: As) H (some v)) (hO : OB E ci fs a H) (hc : vwCl[ci]? = some (y.cls, T, N)) (hk : k' + 1 ≤ k) (hn : As.length = n) (hl : ls.size = nL) (hst : st0 = As.reverse ++ .ref a :: rest) (hW : (rest.map fun v => v.category).sum ≤ 8) (hcs : cells ≤ mc) (hss : slots ≤ ms) (hdg : decode cc pc = .ok (.invokevirtual idx, 3))
    (kk : W p (eL E) e (rmk k mc ms) s m args below meth c H locs cells slots Q (F0 m (pc + 3) ls (v :: rest))) : W p (eL E) e (rmk k mc ms) s m args below meth c H locs cells slots Q (F0 m pc ls st0) := by
  refine pk_go (g := F0 m pc ls st0) (va_runV (As := As) (rest := rest) ⟨hx, hb, hml, hown, hts⟩ hM (cwV9 hts kw hk) ⟨PC.blind, recv9 hE hO hc, fun U hU hW => ⟨rfl, hU, by rw [hU]; exact hE.warm hW⟩⟩ rfl hn hl hst (lv_room hW) hdg ⟨hcs, hss⟩) kk
theorem pVU (hx : p.tables.exec = Jvm.exec) (hb : c.code = cc) (hml : c.maxLocals = nL) (hts : ∀ w ∈ Tw, w.before args s = true) (hown : s.vm.findClass own = some m.cls) (hE : EV E s H) (kw : kwV own idx y b mL ret n) (hM : PCon E y b mL ret k' (.ref a :: As) H none) (hO : OB E ci fs a H) (hc : vwCl[ci]? = some (y.cls, T, N)) (hk : k' + 1 ≤ k) (hn : As.length = n) (hl : ls.size = nL) (hst : st0 = As.reverse ++ .ref a :: rest) (hW : (rest.map fun v => v.category).sum ≤ 8) (hcs : cells ≤ mc) (hss : slots ≤ ms) (hdg : decode cc pc = .ok (.invokevirtual idx, 3))
    (kk : W p (eL E) e (rmk k mc ms) s m args below meth c H locs cells slots Q (F0 m (pc + 3) ls rest)) : W p (eL E) e (rmk k mc ms) s m args below meth c H locs cells slots Q (F0 m pc ls st0) := by
  refine pk_goU (g := F0 m pc ls st0) (va_runV (As := As) (rest := rest) ⟨hx, hb, hml, hown, hts⟩ hM (cwV9 hts kw hk) ⟨PC.blind, recv9 hE hO hc, fun U hU hW => ⟨rfl, hU, by rw [hU]; exact hE.warm hW⟩⟩ rfl hn hl hst (lv_room hW) hdg ⟨hcs, hss⟩) kk
/-- a static call of a method that leaves the heap -/
theorem pS (hx : p.tables.exec = Jvm.exec) (hb : c.code = cc) (hml : c.maxLocals = nL) (hts : ∀ w ∈ Tw, w.before args s = true) (hown : s.vm.findClass own = some m.cls) (hE : EV E s H) (kw : kwS own idx y b mL ret n) (hM : PCon E y b mL ret k' As H (some v)) (hk : k' + 1 ≤ k) (hn : As.length = n) (hl : ls.size = nL) (hst : st0 = As.reverse ++ rest) (hW : (rest.map fun v => v.category).sum ≤ 8) (hcs : cells ≤ mc) (hss : slots ≤ ms) (hdg : decode cc pc = .ok (.invokestatic idx, 3))
    (kk : W p (eL E) e (rmk k mc ms) s m args below meth c H locs cells slots Q (F0 m (pc + 3) ls (v :: rest))) : W p (eL E) e (rmk k mc ms) s m args below meth c H locs cells slots Q (F0 m pc ls st0) := by
  refine pk_go (g := F0 m pc ls st0) (va_runS (As := As) (rest := rest) ⟨hx, hb, hml, hown, hts⟩ hM (cwS9 hts kw hk) ⟨PC.blind, fun U hU hW => ⟨rfl, hU, by rw [hU]; exact hE.warm hW⟩⟩ rfl hn hl hst (lv_room hW) hdg ⟨hcs, hss⟩) kk
/-! arrays, casts -/
theorem aI {f : Nat → Int32} {j : Nat} {i v : Int32} (hx : p.tables.exec = Jvm.exec) (hb : c.code = cc) (hE : EV E s H) (hA : IA E n f a H) (hi : i = nI j) (hj : j < n) (hn : n < 2 ^ 31) (hv : f j = v) (hdg : decode cc pc = .ok (.iaload, 1))
    (kk : W p (eL E) e R s m args below meth c H locs cells slots Q (F0 m (pc + 1) ls (.int v :: rest))) : W p (eL E) e R s m args below meth c H locs cells slots Q (F0 m pc ls (.int i :: .ref a :: rest)) := by
  subst hi hv
  refine va_iald hx hb hE.K hA 0 0 rfl rfl (vp_in_nI hj hn) hdg ?_
  rw [nI_clamp (by omega)]
  exact kk
theorem aQ {f : Nat → Option Nat} {j q : Nat} {i : Int32} (hx : p.tables.exec = Jvm.exec) (hb : c.code = cc) (hE : EV E s H) (hA : QA E n f a H) (hi : i = nI j) (hj : j < n) (hn : n < 2 ^ 31) (hv : f j = some q) (hdg : decode cc pc = .ok (.aaload, 1))
    (kk : W p (eL E) e R s m args below meth c H locs cells slots Q (F0 m (pc + 1) ls (.ref q :: rest))) : W p (eL E) e R s m args below meth c H locs cells slots Q (F0 m pc ls (.int i :: .ref a :: rest)) := by
  subst hi
  refine va_aldq hx hb hE.K hA 0 2 rfl rfl (vp_in_nI hj hn) hdg ?_
  rw [nI_clamp (by omega), hv]
  exact kk
theorem aLI {f : Nat → Int32} (hx : p.tables.exec = Jvm.exec) (hb : c.code = cc) (hE : EV E s H) (hA : IA E n f a H) (hdg : decode cc pc = .ok (.arraylength, 1))
    (kk : W p (eL E) e R s m args below meth c H locs cells slots Q (F0 m (pc + 1) ls (.int (nI n) :: rest))) : W p (eL E) e R s m args below meth c H locs cells slots Q (F0 m pc ls (.ref a :: rest)) := va_alen hx hb hE.K hA 0 0 rfl rfl rfl hdg kk
theorem aLQ {f : Nat → Option Nat} (hx : p.tables.exec = Jvm.exec) (hb : c.code = cc) (hE : EV E s H) (hA : QA E n f a H) (hdg : decode cc pc = .ok (.arraylength, 1))
    (kk : W p (eL E) e R s m args below meth c H locs cells slots Q (F0 m (pc + 1) ls (.int (nI n) :: rest))) : W p (eL E) e R s m args below meth c H locs cells slots Q (F0 m pc ls (.ref a :: rest)) := va_alen hx hb hE.K hA 0 2 rfl rfl rfl hdg kk
theorem aLB {f : Nat → Option Nat} (hx : p.tables.exec = Jvm.exec) (hb : c.code = cc) (hE : EV E s H) (hA : QB E n f a H) (hdg : decode cc pc = .ok (.arraylength, 1))
    (kk : W p (eL E) e R s m args below meth c H locs cells slots Q (F0 m (pc + 1) ls (.int (nI n) :: rest))) : W p (eL E) e R s m args below meth c H locs cells slots Q (F0 m pc ls (.ref a :: rest)) := by
  rcases hA with hA | ⟨h0, cell, h1, h2, h3, h4⟩
  · exact aLQ hx hb hE hA hdg kk
  · subst h0
    obtain ⟨kA, comp, k1, k2, -⟩ := (hE.K.2 2 _ rfl).2
    exact W.alen (n := nI 0) (ty := .object "java/lang/Object") hx hb h1 ⟨h3, kA, by rw [h2]; exact k1, comp, k2⟩ (by rw [h4]; rfl) rfl rfl hdg kk
theorem cst {idx : Nat} {fs : List Value} {C : String} {T : u_T} {N ci a : Nat} (hx : p.tables.exec = Jvm.exec) (hb : c.code = cc) (hts : ∀ w ∈ Tw, w.before args s = true) (hown : s.vm.findClass own = some m.cls) (hE : EV E s H) (hw : Cond.classLink own idx C ∈ Tw) (hO : OB E ci fs a H) (hc : vwCl[ci]? = some (C, T, N)) (hdg : decode cc pc = .ok (.checkcast idx, 3))
    (kk : W p (eL E) e R s m args below meth c H locs cells slots Q (F0 m (pc + 3) ls (.ref a :: rest))) : W p (eL E) e R s m args below meth c H locs cells slots Q (F0 m pc ls (.ref a :: rest)) :=
  va_castS hx hb hown (hts _ hw) (hE.K.1 ci _ hc).2 (recv9 hE hO hc) hdg kk
end STP2
