section LAWR
variable {p : Program} {e : Env} {R : Room} {s : State} {m : MethodId} {args : Array Value} {below : List Frame} {meth : Method} {c : Code} {H H0 : Heap} {locs : List Loc} {cells slots : Nat} {Q : State → Prop}
variable {cc : ByteArray} {pc nL : Nat} {ls : Array Slot} {rest st0 : List Value} {E : ET} {own : String}
variable {idx k' mc' ms' n mL a ci N : Nat} {y : MethodName} {b : ByteArray} {ret : Option FieldType} {As : List Value} {v : Value} {fs : List Value} {T : u_T}
theorem cwVR {k' mc' ms' : Nat} {idx : Nat} {y : MethodName} {b : ByteArray} {mL : Nat} {ret : Option FieldType} {n : Nat} (hts : ∀ w ∈ Tw, w.before args s = true) (h : kwV own idx y b mL ret n) (hk : k' ≤ 12) : CallW room_1 s args own y.cls idx y b mL ret (wm y b mL ret) (rmk k' mc' ms') mc' ms' n := by
  obtain ⟨h1, h2, h3, h4, h5, h6, h7⟩ := h
  refine cwV n hts (fun w hw => ?_) rfl rfl rfl ⟨rfl, h6⟩ ⟨by show k' + 1 ≤ 13; omega, ?_⟩
  · simp only [wsV, List.cons_append, List.nil_append] at hw
    rcases List.mem_cons.mp hw with rfl | hw
    · exact good1 h1
    rcases List.mem_cons.mp hw with rfl | hw
    · exact good1 h2
    rcases List.mem_cons.mp hw with rfl | hw
    · exact good1 h3
    rcases List.mem_cons.mp hw with rfl | hw
    · exact good1 h4
    · exact wm_good h5 w hw
  · show 8 + (mL + 11) + 40 * k' ≤ 560
    omega
theorem cwIR {k' mc' ms' : Nat} {idx : Nat} {y : MethodName} {b : ByteArray} {mL : Nat} {n : Nat} (hts : ∀ w ∈ Tw, w.before args s = true) (h : kwI own idx y b mL n) (hk : k' ≤ 12) : CallB room_1 s args own idx y b mL none (wm y b mL none) (rmk k' mc' ms') mc' ms' n ∧ y.name = "<init>" ∧ (Cond.instanceMethod y).before args s = true := by
  obtain ⟨h1, h2, h4, h5, h6, h7, h8⟩ := h
  refine cwI n hts (wm_good h5) rfl rfl rfl (hts _ h4) (hts _ h1) (hts _ h2) h8 h6 ⟨by show k' + 1 ≤ 13; omega, ?_⟩
  show 8 + (mL + 11) + 40 * k' ≤ 560
  omega
theorem cwSR {k' mc' ms' : Nat} {idx : Nat} {y : MethodName} {b : ByteArray} {mL : Nat} {ret : Option FieldType} {n : Nat} (hts : ∀ w ∈ Tw, w.before args s = true) (h : kwS own idx y b mL ret n) (hk : k' ≤ 12) : CallB room_1 s args own idx y b mL ret (wm y b mL ret) (rmk k' mc' ms') mc' ms' n ∧ (Cond.static y).before args s = true := by
  obtain ⟨h1, h2, h4, h5, h6, h7⟩ := h
  refine va_cwS n hts (fun w hw => ?_) rfl rfl rfl h6 ⟨by show k' + 1 ≤ 13; omega, ?_⟩
  · simp only [va_wsS, List.cons_append, List.nil_append] at hw
    rcases List.mem_cons.mp hw with rfl | hw
    · exact good1 h1
    rcases List.mem_cons.mp hw with rfl | hw
    · exact good1 h2
    rcases List.mem_cons.mp hw with rfl | hw
    · exact good1 h4
    · exact wm_good h5 w hw
  · show 8 + (mL + 11) + 40 * k' ≤ 560
    omega
theorem lpV (hx : p.tables.exec = Jvm.exec) (hb : c.code = cc) (hml : c.maxLocals = nL) (hts : ∀ w ∈ Tw, w.before args s = true) (hown : s.vm.findClass own = some m.cls) (hE : EV E s H) (kw : kwV own idx y b mL ret n) (hM : PCon E y b mL ret k' (.ref a :: As) H (some v)) (hO : OB E ci fs a H) (hc : vwCl[ci]? = some (y.cls, T, N)) (hk : k' ≤ 12) (hn : As.length = n) (hl : ls.size = nL) (hst : st0 = As.reverse ++ .ref a :: rest) (hW : (rest.map fun v => v.category).sum ≤ 8) (hcs : cells ≤ 1173600) (hss : slots ≤ 5581029) (hdg : decode cc pc = .ok (.invokevirtual idx, 3))
    (kk : W p (eL E) e room_1 s m args below meth c H locs cells slots Q (F0 m (pc + 3) ls (v :: rest))) : W p (eL E) e room_1 s m args below meth c H locs cells slots Q (F0 m pc ls st0) := by
  refine pk_go (g := F0 m pc ls st0) (va_runV (As := As) (rest := rest) ⟨hx, hb, hml, hown, hts⟩ hM (cwVR hts kw hk) ⟨PC.blind, recv9 hE hO hc, fun U hU hW => ⟨rfl, hU, by rw [hU]; exact hE.warm hW⟩⟩ rfl hn hl hst (lv_room hW) hdg ⟨hcs, hss⟩) kk
theorem lpS (hx : p.tables.exec = Jvm.exec) (hb : c.code = cc) (hml : c.maxLocals = nL) (hts : ∀ w ∈ Tw, w.before args s = true) (hown : s.vm.findClass own = some m.cls) (hE : EV E s H) (kw : kwS own idx y b mL ret n) (hM : PCon E y b mL ret k' As H (some v)) (hk : k' ≤ 12) (hn : As.length = n) (hl : ls.size = nL) (hst : st0 = As.reverse ++ rest) (hW : (rest.map fun v => v.category).sum ≤ 8) (hcs : cells ≤ 1173600) (hss : slots ≤ 5581029) (hdg : decode cc pc = .ok (.invokestatic idx, 3))
    (kk : W p (eL E) e room_1 s m args below meth c H locs cells slots Q (F0 m (pc + 3) ls (v :: rest))) : W p (eL E) e room_1 s m args below meth c H locs cells slots Q (F0 m pc ls st0) := by
  refine pk_go (g := F0 m pc ls st0) (va_runS (As := As) (rest := rest) ⟨hx, hb, hml, hown, hts⟩ hM (cwSR hts kw hk) ⟨PC.blind, fun U hU hW => ⟨rfl, hU, by rw [hU]; exact hE.warm hW⟩⟩ rfl hn hl hst (lv_room hW) hdg ⟨hcs, hss⟩) kk
theorem lgV {r : Value} {G : Heap → Prop} (hx : p.tables.exec = Jvm.exec) (hb : c.code = cc) (hml : c.maxLocals = nL) (hts : ∀ w ∈ Tw, w.before args s = true) (hown : s.vm.findClass own = some m.cls) (hB : eB E ≤ s.heap.size) (hE : EV E s H) (hS : va_S (fr E) s.heap H locs) (kw : kwV own idx y b mL ret n) (hM : Con E y b mL ret k' mc' ms' (.ref a :: As) H (o1 (some r) G)) (hO : OB E ci fs a H) (hc : vwCl[ci]? = some (y.cls, T, N)) (hk : k' ≤ 12) (hn : As.length = n) (hl : ls.size = nL) (hst : st0 = As.reverse ++ .ref a :: rest) (hW : (rest.map fun v => v.category).sum ≤ 8) (hcs : cells + mc' ≤ 1173600) (hss : slots + ms' ≤ 5581029) (hdg : decode cc pc = .ok (.invokevirtual idx, 3))
    (kk : ∀ (H1 : Heap) (locs1 : List Loc), G H1 → H.size ≤ H1.size → EV E s H1 → va_S (fr E) s.heap H1 locs1 → W p (eL E) e room_1 s m args below meth c H1 locs1 (cells + mc') (slots + ms') Q (F0 m (pc + 3) ls (r :: rest))) : W p (eL E) e room_1 s m args below meth c H locs cells slots Q (F0 m pc ls st0) :=
  g_go hB hE hS (va_runV (g := F0 m pc ls st0) (As := As) (rest := rest) ⟨hx, hb, hml, hown, hts⟩ hM (cwVR hts kw hk) ⟨PC.blind, recv9 hE hO hc, fun U hU hW => ⟨rfl, hU, by rw [hU]; exact hE.warm hW⟩⟩ rfl hn hl hst (lv_room hW) hdg ⟨hcs, hss⟩) kk
theorem lgVU {G : Heap → Prop} (hx : p.tables.exec = Jvm.exec) (hb : c.code = cc) (hml : c.maxLocals = nL) (hts : ∀ w ∈ Tw, w.before args s = true) (hown : s.vm.findClass own = some m.cls) (hB : eB E ≤ s.heap.size) (hE : EV E s H) (hS : va_S (fr E) s.heap H locs) (kw : kwV own idx y b mL ret n) (hM : Con E y b mL ret k' mc' ms' (.ref a :: As) H (o1 none G)) (hO : OB E ci fs a H) (hc : vwCl[ci]? = some (y.cls, T, N)) (hk : k' ≤ 12) (hn : As.length = n) (hl : ls.size = nL) (hst : st0 = As.reverse ++ .ref a :: rest) (hW : (rest.map fun v => v.category).sum ≤ 8) (hcs : cells + mc' ≤ 1173600) (hss : slots + ms' ≤ 5581029) (hdg : decode cc pc = .ok (.invokevirtual idx, 3))
    (kk : ∀ (H1 : Heap) (locs1 : List Loc), G H1 → H.size ≤ H1.size → EV E s H1 → va_S (fr E) s.heap H1 locs1 → W p (eL E) e room_1 s m args below meth c H1 locs1 (cells + mc') (slots + ms') Q (F0 m (pc + 3) ls rest)) : W p (eL E) e room_1 s m args below meth c H locs cells slots Q (F0 m pc ls st0) :=
  g_go hB hE hS (va_runV (g := F0 m pc ls st0) (As := As) (rest := rest) ⟨hx, hb, hml, hown, hts⟩ hM (cwVR hts kw hk) ⟨PC.blind, recv9 hE hO hc, fun U hU hW => ⟨rfl, hU, by rw [hU]; exact hE.warm hW⟩⟩ rfl hn hl hst (lv_room hW) hdg ⟨hcs, hss⟩) kk
theorem lgI {G : Heap → Prop} (hx : p.tables.exec = Jvm.exec) (hb : c.code = cc) (hml : c.maxLocals = nL) (hts : ∀ w ∈ Tw, w.before args s = true) (hown : s.vm.findClass own = some m.cls) (hB : eB E ≤ s.heap.size) (hE : EV E s H) (hS : va_S (fr E) s.heap H locs) (kw : kwI own idx y b mL n) (hM : Con E y b mL none k' mc' ms' (.ref a :: As) H (o1 none G)) (hk : k' ≤ 12) (hn : As.length = n) (hl : ls.size = nL) (hst : st0 = As.reverse ++ .ref a :: rest) (hW : (rest.map fun v => v.category).sum ≤ 8) (hcs : cells + mc' ≤ 1173600) (hss : slots + ms' ≤ 5581029) (hdg : decode cc pc = .ok (.invokespecial idx, 3))
    (kk : ∀ (H1 : Heap) (locs1 : List Loc), G H1 → H.size ≤ H1.size → EV E s H1 → va_S (fr E) s.heap H1 locs1 → W p (eL E) e room_1 s m args below meth c H1 locs1 (cells + mc') (slots + ms') Q (F0 m (pc + 3) ls rest)) : W p (eL E) e room_1 s m args below meth c H locs cells slots Q (F0 m pc ls st0) :=
  g_go hB hE hS (va_runI (g := F0 m pc ls st0) (As := As) (rest := rest) ⟨hx, hb, hml, hown, hts⟩ hM (cwIR hts kw hk) ⟨PC.blind, fun U hU hW => ⟨rfl, hU, by rw [hU]; exact hE.warm hW⟩⟩ rfl hn hl hst (lv_room hW) hdg ⟨hcs, hss⟩) kk
theorem lgS {r : Value} {G : Heap → Prop} (hx : p.tables.exec = Jvm.exec) (hb : c.code = cc) (hml : c.maxLocals = nL) (hts : ∀ w ∈ Tw, w.before args s = true) (hown : s.vm.findClass own = some m.cls) (hB : eB E ≤ s.heap.size) (hE : EV E s H) (hS : va_S (fr E) s.heap H locs) (kw : kwS own idx y b mL ret n) (hM : Con E y b mL ret k' mc' ms' As H (o1 (some r) G)) (hk : k' ≤ 12) (hn : As.length = n) (hl : ls.size = nL) (hst : st0 = As.reverse ++ rest) (hW : (rest.map fun v => v.category).sum ≤ 8) (hcs : cells + mc' ≤ 1173600) (hss : slots + ms' ≤ 5581029) (hdg : decode cc pc = .ok (.invokestatic idx, 3))
    (kk : ∀ (H1 : Heap) (locs1 : List Loc), G H1 → H.size ≤ H1.size → EV E s H1 → va_S (fr E) s.heap H1 locs1 → W p (eL E) e room_1 s m args below meth c H1 locs1 (cells + mc') (slots + ms') Q (F0 m (pc + 3) ls (r :: rest))) : W p (eL E) e room_1 s m args below meth c H locs cells slots Q (F0 m pc ls st0) :=
  g_go hB hE hS (va_runS (g := F0 m pc ls st0) (As := As) (rest := rest) ⟨hx, hb, hml, hown, hts⟩ hM (cwSR hts kw hk) ⟨PC.blind, fun U hU hW => ⟨rfl, hU, by rw [hU]; exact hE.warm hW⟩⟩ rfl hn hl hst (lv_room hW) hdg ⟨hcs, hss⟩) kk
theorem lnw {C : String} {ty0 : Nat → FieldType} (hx : p.tables.exec = Jvm.exec) (hb : c.code = cc) (hts : ∀ w ∈ Tw, w.before args s = true) (hown : s.vm.findClass own = some m.cls) (hE : EV E s H) (hS : va_S (fr E) s.heap H locs) (hk : NK own idx C T N ci ty0) (hfs : ∀ j, j < N → defaultValue (ty0 j) = vp_V fs j) (hc : cells + 1 ≤ 1173600) (hs : slots + N ≤ 5581029) (hdg : decode cc pc = .ok (.new idx, 3))
    (kk : ∀ (a : Nat) (H1 : Heap), a = H.size → OB E ci fs a H1 → H1.size = H.size + 1 → (∀ q : Nat, q < H.size → H1[q]? = H[q]?) → EV E s H1 → va_S (fr E) s.heap H1 locs → eB E ≤ a → W p (eL E) e room_1 s m args below meth c H1 locs (cells + 1) (slots + N) Q (F0 m (pc + 3) ls (.ref a :: rest))) : W p (eL E) e room_1 s m args below meth c H locs cells slots Q (F0 m pc ls rest) := by
  obtain ⟨h1, h2, h3, h4, h5, h6⟩ := hk
  have hKn := hE.K.1 ci _ h2
  refine W.newcK hx hb hown (hts _ h3) (hts _ h4) (hts _ h5) rfl hdg hc hs hKn.2.1 rfl fun H1 kC hkC e1 z1 o1 => ?_
  exact kk H.size H1 rfl (one9 ⟨_, h2, (u_born ty0 hts h1 hKn hkC e1 h6).to hfs⟩) z1 o1 (EVn hE (by omega) o1) (SFn hS (by omega) o1) hE.2.1
theorem lnaI {z : Int32} {N' : Nat} (hx : p.tables.exec = Jvm.exec) (hb : c.code = cc) (hts : ∀ w ∈ Tw, w.before args s = true) (hE : EV E s H) (hS : va_S (fr E) s.heap H locs) (hw : Cond.arrayClass .int ∈ Tw) (hz : z = nI N') (hN : N' ≤ 100000) (hc : cells + 1 ≤ 1173600) (hs : slots + N' ≤ 5581029) (hdg : decode cc pc = .ok (.newarray .int, 2))
    (kk : ∀ (a : Nat) (H1 : Heap), a = H.size → IA E N' (fun _ => 0) a H1 → H1.size = H.size + 1 → (∀ q : Nat, q < H.size → H1[q]? = H[q]?) → EV E s H1 → va_S (fr E) s.heap H1 locs → eB E ≤ a → W p (eL E) e room_1 s m args below meth c H1 locs (cells + 1) (slots + N') Q (F0 m (pc + 2) ls (.ref a :: rest))) : W p (eL E) e room_1 s m args below meth c H locs cells slots Q (F0 m pc ls (.int z :: rest)) := by
  subst hz
  refine va_newaK hx hb (atype := .int) (hts _ hw) rfl hdg rfl (nI_pos (by omega)) (nI_clamp (by omega)) (by show N' * 4 ≤ _; omega) hc hs rfl fun H1 cA e1 z1 o1 hAr hNm => ?_
  have hcA : cA = eA E 0 := Option.some.inj (hNm.symm.trans (hE.K.2 0 _ rfl).2)
  subst hcA
  exact kk H.size H1 rfl (one9 e1) z1 o1 (EVn hE (by omega) o1) (SFn hS (by omega) o1) hE.2.1
end LAWR
