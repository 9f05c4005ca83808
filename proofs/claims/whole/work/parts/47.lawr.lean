section LAWR
variable {p : Program} {e : Env} {R : Room} {s : State} {m : MethodId} {args : Array Value} {below : List Frame} {meth : Method} {c : Code} {H H0 : Heap} {locs : List Loc} {cells slots : Nat} {Q : State → Prop}
variable {cc : ByteArray} {pc nL : Nat} {ls : Array Slot} {rest st0 : List Value} {E : ET} {own : String} {hh : List (Nat × Nat × Nat × Nat)}
variable {idx k' mc' ms' n mL a ci N : Nat} {y : MethodName} {b : ByteArray} {ret : Option FieldType} {As : List Value} {v : Value} {fs : List Value} {T : u_T}
theorem cwVR {k' mc' ms' : Nat} {idx : Nat} {y : MethodName} {b : ByteArray} {mL : Nat} {ret : Option FieldType} {n : Nat} (hts : ∀ w ∈ Tw, w.before args s = true) (h : kwV own idx y b mL ret n) (hk : k' ≤ 12) : CallW room_1 s args own y.cls idx y b mL ret (wm y b mL ret) (rmk k' mc' ms') mc' ms' n := by
  obtain ⟨h1, h2, h3, h4, h5, h6, h7⟩ := h
  refine cwV n hts (fun w hw => ?_) rfl rfl rfl ⟨rfl, h6⟩ ⟨by show k' + 1 ≤ 13; omega, ?_⟩
  · simp only [wsV, List.cons_append, List.nil_append] at hw
    rcases List.mem_cons.mp hw with rfl | hw
    · exact good1 h1
    rcases List.mem_cons.mp hw with rfl | hw
    · exact good1 h2
    rcases List.mem_cons.mp hw with rfl | hw
    · exact good1 h3
    rcases List.mem_cons.mp hw with rfl | hw
    · exact good1 h4
    · exact wm_good h5 w hw
  · show 8 + (mL + 11) + 40 * k' ≤ 546
    omega
theorem cwIR {k' mc' ms' : Nat} {idx : Nat} {y : MethodName} {b : ByteArray} {mL : Nat} {n : Nat} (hts : ∀ w ∈ Tw, w.before args s = true) (h : kwI own idx y b mL n) (hk : k' ≤ 12) : CallB room_1 s args own idx y b mL none (wm y b mL none) (rmk k' mc' ms') mc' ms' n ∧ y.name = "<init>" ∧ (Cond.instanceMethod y).before args s = true := by
  obtain ⟨h1, h2, h4, h5, h6, h7, h8⟩ := h
  refine cwI n hts (wm_good h5) rfl rfl rfl (hts _ h4) (hts _ h1) (hts _ h2) h8 h6 ⟨by show k' + 1 ≤ 13; omega, ?_⟩
  show 8 + (mL + 11) + 40 * k' ≤ 546
  omega
theorem cwWR (hts : ∀ w ∈ Tw, w.before args s = true) (h : kwW own idx y b mL ret hh n) (hk : k' ≤ 12) : vx_CSW room_1 s args own idx y b mL ret hh (ww y b mL ret hh) (rmk k' mc' ms') mc' ms' n := by
  obtain ⟨h1, h2, h4, h5, h6, h7⟩ := h
  refine vx_cwSW n hts (fun w hw => ?_) rfl rfl rfl h6 ⟨by show k' + 1 ≤ 13; omega, ?_⟩
  · simp only [va_wsS, List.cons_append, List.nil_append] at hw
    rcases List.mem_cons.mp hw with rfl | hw
    · exact good1 h1
    rcases List.mem_cons.mp hw with rfl | hw
    · exact good1 h2
    rcases List.mem_cons.mp hw with rfl | hw
    · exact good1 h4
    rcases List.mem_cons.mp hw with rfl | hw
    · exact good1 h5
    · exact good1 hw
  · show 8 + (mL + 11) + 40 * k' ≤ 546
    omega
theorem lpV (hx : p.tables.exec = Jvm.exec) (hb : c.code = cc) (hml : c.maxLocals = nL) (hts : ∀ w ∈ Tw, w.before args s = true) (hown : s.vm.findClass own = some m.cls) (hE : EV E s H) (kw : kwV own idx y b mL ret n) (hM : PCon E y b mL ret k' (.ref a :: As) H (some v)) (hO : OB E ci fs a H) (hc : vwCl[ci]? = some (y.cls, T, N)) (hk : k' ≤ 12) (hn : As.length = n) (hl : ls.size = nL) (hst : st0 = As.reverse ++ .ref a :: rest) (hW : (rest.map fun v => v.category).sum ≤ 8) (hcs : cells ≤ 601024) (hss : slots ≤ 7293033) (hdg : decode cc pc = .ok (.invokevirtual idx, 3))
    (kk : W p (eL E) e room_1 s m args below meth c H locs cells slots Q (F0 m (pc + 3) ls (v :: rest))) : W p (eL E) e room_1 s m args below meth c H locs cells slots Q (F0 m pc ls st0) := by
  refine pk_go (g := F0 m pc ls st0) (va_runV (As := As) (rest := rest) ⟨hx, hb, hml, hown, hts⟩ hM (cwVR hts kw hk) ⟨PC.blind, recv9 hE hO hc, fun U hU hW => ⟨rfl, hU, by rw [hU]; exact hE.warm hW⟩⟩ rfl hn hl hst (lv_room hW) hdg ⟨hcs, hss⟩) kk
theorem lgV {r : Value} {G : Heap → Prop} (hx : p.tables.exec = Jvm.exec) (hb : c.code = cc) (hml : c.maxLocals = nL) (hts : ∀ w ∈ Tw, w.before args s = true) (hown : s.vm.findClass own = some m.cls) (hB : eB E ≤ s.heap.size) (hE : EV E s H) (hS : va_S (fr E) s.heap H locs) (kw : kwV own idx y b mL ret n) (hM : Con E y b mL ret k' mc' ms' (.ref a :: As) H (o1 (some r) G)) (hO : OB E ci fs a H) (hc : vwCl[ci]? = some (y.cls, T, N)) (hk : k' ≤ 12) (hn : As.length = n) (hl : ls.size = nL) (hst : st0 = As.reverse ++ .ref a :: rest) (hW : (rest.map fun v => v.category).sum ≤ 8) (hcs : cells + mc' ≤ 601024) (hss : slots + ms' ≤ 7293033) (hdg : decode cc pc = .ok (.invokevirtual idx, 3))
    (kk : ∀ (H1 : Heap) (locs1 : List Loc), G H1 → H.size ≤ H1.size → EV E s H1 → va_S (fr E) s.heap H1 locs1 → W p (eL E) e room_1 s m args below meth c H1 locs1 (cells + mc') (slots + ms') Q (F0 m (pc + 3) ls (r :: rest))) : W p (eL E) e room_1 s m args below meth c H locs cells slots Q (F0 m pc ls st0) :=
  g_go hB hE hS (va_runV (g := F0 m pc ls st0) (As := As) (rest := rest) ⟨hx, hb, hml, hown, hts⟩ hM (cwVR hts kw hk) ⟨PC.blind, recv9 hE hO hc, fun U hU hW => ⟨rfl, hU, by rw [hU]; exact hE.warm hW⟩⟩ rfl hn hl hst (lv_room hW) hdg ⟨hcs, hss⟩) kk
theorem lgVU {G : Heap → Prop} (hx : p.tables.exec = Jvm.exec) (hb : c.code = cc) (hml : c.maxLocals = nL) (hts : ∀ w ∈ Tw, w.before args s = true) (hown : s.vm.findClass own = some m.cls) (hB : eB E ≤ s.heap.size) (hE : EV E s H) (hS : va_S (fr E) s.heap H locs) (kw : kwV own idx y b mL ret n) (hM : Con E y b mL ret k' mc' ms' (.ref a :: As) H (o1 none G)) (hO : OB E ci fs a H) (hc : vwCl[ci]? = some (y.cls, T, N)) (hk : k' ≤ 12) (hn : As.length = n) (hl : ls.size = nL) (hst : st0 = As.reverse ++ .ref a :: rest) (hW : (rest.map fun v => v.category).sum ≤ 8) (hcs : cells + mc' ≤ 601024) (hss : slots + ms' ≤ 7293033) (hdg : decode cc pc = .ok (.invokevirtual idx, 3))
    (kk : ∀ (H1 : Heap) (locs1 : List Loc), G H1 → H.size ≤ H1.size → EV E s H1 → va_S (fr E) s.heap H1 locs1 → W p (eL E) e room_1 s m args below meth c H1 locs1 (cells + mc') (slots + ms') Q (F0 m (pc + 3) ls rest)) : W p (eL E) e room_1 s m args below meth c H locs cells slots Q (F0 m pc ls st0) :=
  g_go hB hE hS (va_runV (g := F0 m pc ls st0) (As := As) (rest := rest) ⟨hx, hb, hml, hown, hts⟩ hM (cwVR hts kw hk) ⟨PC.blind, recv9 hE hO hc, fun U hU hW => ⟨rfl, hU, by rw [hU]; exact hE.warm hW⟩⟩ rfl hn hl hst (lv_room hW) hdg ⟨hcs, hss⟩) kk
theorem lgI {G : Heap → Prop} (hx : p.tables.exec = Jvm.exec) (hb : c.code = cc) (hml : c.maxLocals = nL) (hts : ∀ w ∈ Tw, w.before args s = true) (hown : s.vm.findClass own = some m.cls) (hB : eB E ≤ s.heap.size) (hE : EV E s H) (hS : va_S (fr E) s.heap H locs) (kw : kwI own idx y b mL n) (hM : Con E y b mL none k' mc' ms' (.ref a :: As) H (o1 none G)) (hk : k' ≤ 12) (hn : As.length = n) (hl : ls.size = nL) (hst : st0 = As.reverse ++ .ref a :: rest) (hW : (rest.map fun v => v.category).sum ≤ 8) (hcs : cells + mc' ≤ 601024) (hss : slots + ms' ≤ 7293033) (hdg : decode cc pc = .ok (.invokespecial idx, 3))
    (kk : ∀ (H1 : Heap) (locs1 : List Loc), G H1 → H.size ≤ H1.size → EV E s H1 → va_S (fr E) s.heap H1 locs1 → W p (eL E) e room_1 s m args below meth c H1 locs1 (cells + mc') (slots + ms') Q (F0 m (pc + 3) ls rest)) : W p (eL E) e room_1 s m args below meth c H locs cells slots Q (F0 m pc ls st0) :=
  g_go hB hE hS (va_runI (g := F0 m pc ls st0) (As := As) (rest := rest) ⟨hx, hb, hml, hown, hts⟩ hM (cwIR hts kw hk) ⟨PC.blind, fun U hU hW => ⟨rfl, hU, by rw [hU]; exact hE.warm hW⟩⟩ rfl hn hl hst (lv_room hW) hdg ⟨hcs, hss⟩) kk
theorem lgW {out : Option Value → Heap → Prop} (hx : p.tables.exec = Jvm.exec) (hb : c.code = cc) (hml : c.maxLocals = nL) (hts : ∀ w ∈ Tw, w.before args s = true) (hown : s.vm.findClass own = some m.cls) (hB : eB E ≤ s.heap.size) (hE : EV E s H) (hS : va_S (fr E) s.heap H locs) (kw : kwW own idx y b mL ret hh n) (hM : WCon E y b mL ret hh k' mc' ms' As H out) (hk : k' ≤ 12) (hn : As.length = n) (hl : ls.size = nL) (hst : st0 = As.reverse ++ rest) (hW : (rest.map fun v => v.category).sum ≤ 8) (hcs : cells + mc' ≤ 601024) (hss : slots + ms' ≤ 7293033) (hdg : decode cc pc = .ok (.invokestatic idx, 3))
    (kk : ∀ (v : Option Value) (H1 : Heap) (locs1 : List Loc), out v H1 → H.size ≤ H1.size → EV E s H1 → va_S (fr E) s.heap H1 locs1 → W p (eL E) e room_1 s m args below meth c H1 locs1 (cells + mc') (slots + ms') Q (F0 m (pc + 3) ls (v.toList ++ rest))) : W p (eL E) e room_1 s m args below meth c H locs cells slots Q (F0 m pc ls st0) :=
  x_go hB hE hS (vx_runSX (g := F0 m pc ls st0) (As := As) (rest := rest) ⟨hx, hb, hml, hown, hts⟩ hM (cwWR hts kw hk) ⟨PC.blind, fun U hU hW => ⟨rfl, hU, by rw [hU]; exact hE.warm hW⟩⟩ rfl hn hl hst (lv_room hW) hdg ⟨hcs, hss⟩)
    (fun X ce q9 H1 locs1 h => h.elim) kk
theorem lnw {C : String} {ty0 : Nat → FieldType} (hx : p.tables.exec = Jvm.exec) (hb : c.code = cc) (hts : ∀ w ∈ Tw, w.before args s = true) (hown : s.vm.findClass own = some m.cls) (hE : EV E s H) (hS : va_S (fr E) s.heap H locs) (hk : NK own idx C T N ci ty0) (hfs : ∀ j, j < N → defaultValue (ty0 j) = vp_V fs j) (hc : cells + 1 ≤ 601024) (hs : slots + N ≤ 7293033) (hdg : decode cc pc = .ok (.new idx, 3))
    (kk : ∀ (a : Nat) (H1 : Heap), a = H.size → OB E ci fs a H1 → H1.size = H.size + 1 → (∀ q : Nat, q < H.size → H1[q]? = H[q]?) → EV E s H1 → va_S (fr E) s.heap H1 locs → eB E ≤ a → W p (eL E) e room_1 s m args below meth c H1 locs (cells + 1) (slots + N) Q (F0 m (pc + 3) ls (.ref a :: rest))) : W p (eL E) e room_1 s m args below meth c H locs cells slots Q (F0 m pc ls rest) := by
  obtain ⟨h1, h2, h3, h4, h5, h6⟩ := hk
  have hKn := hE.K.1 ci _ h2
  refine W.newcK hx hb hown (hts _ h3) (hts _ h4) (hts _ h5) rfl hdg hc hs hKn.2.1 rfl fun H1 kC hkC e1 z1 o1 => ?_
  exact kk H.size H1 rfl (one9 ⟨_, h2, (u_born ty0 hts h1 hKn hkC e1 h6).to hfs⟩) z1 o1 (EVn hE (by omega) o1) (SFn hS (by omega) o1) hE.2.1
end LAWR
theorem kwX_87 : kwW RL 87 yL_holiday cL_holiday 5 (some FieldType.int) [(0, 10, 13, 13), (0, 10, 17, 15), (0, 10, 21, 17)] 4 := ⟨qw1_101, qw1_102, qw1_0, qw1_103, ⟨by decide, by decide, by decide +kernel⟩, Nat.le_of_ble_eq_true rfl⟩
theorem kwX_97 : kwW RL 97 yL_isOpen cL_isOpen 4 (some FieldType.int) [(0, 16, 19, 15)] 3 := ⟨qw2_103, qw2_104, qw1_0, qw2_105, ⟨by decide, by decide, by decide +kernel⟩, Nat.le_of_ble_eq_true rfl⟩
theorem kwX_101 : kwW RL 101 yL_roll cL_roll 4 (some FieldType.int) [(0, 9, 12, 15)] 3 := ⟨qw2_111, qw2_112, qw1_0, qw2_113, ⟨by decide, by decide, by decide +kernel⟩, Nat.le_of_ble_eq_true rfl⟩
theorem kwX_104 : kwW RL 104 yL_fix cL_fix 5 (some FieldType.int) [(0, 10, 13, 15), (0, 10, 17, 17)] 4 := ⟨qw2_119, qw2_120, qw1_0, qw2_121, ⟨by decide, by decide, by decide +kernel⟩, Nat.le_of_ble_eq_true rfl⟩
theorem kwX_107 : kwW RL 107 yL_rateFor cL_rateFor 4 (some FieldType.int) [(0, 9, 12, 15)] 3 := ⟨qw2_132, qw2_133, qw1_0, qw2_134, ⟨by decide, by decide, by decide +kernel⟩, Nat.le_of_ble_eq_true rfl⟩
theorem kwX_110 : kwW RL 110 yL_trade cL_trade 10 (some FieldType.int) [(0, 20, 23, 13), (0, 20, 27, 15), (0, 20, 31, 17)] 9 := ⟨qw2_143, qw2_144, qw1_0, qw2_145, ⟨by decide, by decide, by decide +kernel⟩, Nat.le_of_ble_eq_true rfl⟩
theorem kwX_114 : kwW RL 114 yL_setTerms cL_setTerms 6 (some FieldType.int) [(0, 9, 12, 13), (0, 9, 16, 15), (0, 9, 20, 17)] 5 := ⟨qw2_210, qw2_211, qw1_0, qw2_212, ⟨by decide, by decide, by decide +kernel⟩, Nat.le_of_ble_eq_true rfl⟩
theorem kwX_118 : kwW RL 118 yL_breakPart cL_breakPart 6 (some FieldType.int) [(0, 12, 15, 13), (0, 12, 19, 15), (0, 12, 23, 17)] 5 := ⟨qw2_223, qw2_224, qw1_0, qw2_225, ⟨by decide, by decide, by decide +kernel⟩, Nat.le_of_ble_eq_true rfl⟩
theorem kwX_122 : kwW RL 122 yL_handOver cL_handOver 6 (some FieldType.int) [(0, 12, 15, 13), (0, 12, 19, 15), (0, 12, 23, 17)] 5 := ⟨qw2_239, qw3_0, qw1_0, qw3_1, ⟨by decide, by decide, by decide +kernel⟩, Nat.le_of_ble_eq_true rfl⟩
theorem kwX_125 : kwW RL 125 yL_press cL_press 4 (some FieldType.int) [(0, 9, 12, 15)] 3 := ⟨qw3_12, qw3_13, qw1_0, qw3_14, ⟨by decide, by decide, by decide +kernel⟩, Nat.le_of_ble_eq_true rfl⟩
theorem kwX_132 : kwW RL 132 yL_start cL_start 5 (some FieldType.int) [(0, 10, 13, 13)] 4 := ⟨qw3_40, qw3_41, qw1_0, qw3_42, ⟨by decide, by decide, by decide +kernel⟩, Nat.le_of_ble_eq_true rfl⟩
theorem kwX_135 : kwW RL 135 yL_end cL_end 5 (some FieldType.int) [(0, 10, 13, 13)] 4 := ⟨qw3_53, qw3_54, qw1_0, qw3_55, ⟨by decide, by decide, by decide +kernel⟩, Nat.le_of_ble_eq_true rfl⟩
theorem kwX_138 : kwW RL 138 yL_lots cL_lots 5 (some FieldType.int) [(0, 10, 13, 13)] 4 := ⟨qw3_61, qw3_62, qw1_0, qw3_63, ⟨by decide, by decide, by decide +kernel⟩, Nat.le_of_ble_eq_true rfl⟩
theorem kwX_141 : kwW RL 141 yL_floating cL_floating 5 (some FieldType.int) [(0, 9, 12, 13)] 4 := ⟨qw3_72, qw3_73, qw1_0, qw3_74, ⟨by decide, by decide, by decide +kernel⟩, Nat.le_of_ble_eq_true rfl⟩
theorem kwX_144 : kwW RL 144 yL_flow cL_flow 5 (some FieldType.int) [(0, 9, 12, 13)] 4 := ⟨qw3_95, qw3_96, qw1_0, qw3_97, ⟨by decide, by decide, by decide +kernel⟩, Nat.le_of_ble_eq_true rfl⟩
theorem kwX_147 : kwW RL 147 yL_partyOn cL_partyOn 5 (some FieldType.int) [(0, 10, 13, 13), (0, 10, 17, 15)] 4 := ⟨qw3_108, qw3_109, qw1_0, qw3_110, ⟨by decide, by decide, by decide +kernel⟩, Nat.le_of_ble_eq_true rfl⟩
theorem kwX_150 : kwW RL 150 yL_cash cL_cash 5 (some FieldType.int) [(0, 9, 12, 13), (0, 9, 16, 15)] 4 := ⟨qw3_115, qw3_116, qw1_0, qw3_117, ⟨by decide, by decide, by decide +kernel⟩, Nat.le_of_ble_eq_true rfl⟩
theorem kwX_153 : kwW RL 153 yL_cashOfDays cL_cashOfDays 6 (some FieldType.int) [(0, 11, 14, 13), (0, 11, 18, 15)] 5 := ⟨qw3_131, qw3_132, qw1_0, qw3_133, ⟨by decide, by decide, by decide +kernel⟩, Nat.le_of_ble_eq_true rfl⟩
theorem kwX_156 : kwW RL 156 yL_cashByTrades cL_cashByTrades 6 (some FieldType.int) [(0, 11, 14, 13), (0, 11, 18, 15)] 5 := ⟨qw3_141, qw3_142, qw1_0, qw3_143, ⟨by decide, by decide, by decide +kernel⟩, Nat.le_of_ble_eq_true rfl⟩
theorem kwX_159 : kwW RL 159 yL_nextFlow cL_nextFlow 5 (some FieldType.int) [(0, 10, 13, 13), (0, 10, 17, 15)] 4 := ⟨qw3_148, qw3_149, qw1_0, qw3_150, ⟨by decide, by decide, by decide +kernel⟩, Nat.le_of_ble_eq_true rfl⟩
