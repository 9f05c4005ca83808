/-! the law's wrappers: static methods that catch -/
abbrev ww (y : MethodName) (b : ByteArray) (mL : Nat) (ret : Option FieldType) (hh : List (Nat × Nat × Nat × Nat)) : List Cond := Cond.codeWith y b mL ret hh :: Tw
abbrev WCon (E : ET) (y : MethodName) (b : ByteArray) (mL : Nat) (ret : Option FieldType) (hh : List (Nat × Nat × Nat × Nat)) (k mc ms : Nat) (av : List Value) (H : Heap) (out : Option Value → Heap → Prop) : Prop := vx_Met (eL E) y (ww y b mL ret hh) (rmk k mc ms) (PC E av H) (CQ E out) (XQ E (fun _ => False)) mc ms (fr E)
theorem WCon.of {E : ET} {y : MethodName} {b : ByteArray} {mL : Nat} {ret : Option FieldType} {hh : List (Nat × Nat × Nat × Nat)} {k mc ms : Nat} {av : List Value} {H : Heap} {out : Option Value → Heap → Prop} {C : String} (hC : y.cls = C) (hy : plainName y.cls = true) (hn : (lg_sl av).length ≤ mL)
    (body : ∀ (p : Program) (e : Env) (s : State) (m : MethodId) (below : List Frame) (meth : Method) (c : Code) (ls : Array Slot), p.tables.exec = Jvm.exec → c.code = b → meth.sig.returnType = ret → meth.locks = false → c.maxLocals = mL → s.vm.findClass C = some m.cls → (∀ w ∈ Tw, w.before av.toArray s = true) → c.exceptionTable.toList = tableOf hh → EV E s H → s.heap = H → va_S (fr E) s.heap H [] → lv_has ls mL (lv_args 0 av) →
      W p (eL E) e (rmk k mc ms) s m av.toArray below meth c H [] 0 0 (vx_MQ below (CQ E out) (XQ E (fun _ => False)) av.toArray s mc ms (fr E)) (F0 m 0 ls [])) : WCon E y b mL ret hh k mc ms av H out := by
  refine vx_ofWH (cc := b) (maxL := mL) (ret := ret) (hh := hh) hy rfl ?_
  intro p e s m args below meth c s₁ B hml hv
  obtain ⟨rfl, rfl, hE⟩ := hv
  subst hC
  have hl := lv_entry av hn
  rw [lg_entry_eq]
  have hall : ∀ w ∈ ww y b mL ret hh, w.before av.toArray s = true := fun w hw => atoms_spec (ws := ww y b mL ret hh) B.pre w hw
  exact body p e s m below meth c _ B.exec B.bytes B.returns B.notSynchronized hml (findClass_of_methodNamed B.named) (fun w hw => hall w (List.mem_cons_of_mem _ hw)) (vx_table (x := y) B (hall _ List.mem_cons_self)) hE rfl va_S.rf hl
def kwW (own : String) (idx : Nat) (y : MethodName) (b : ByteArray) (mL : Nat) (ret : Option FieldType) (hh : List (Nat × Nat × Nat × Nat)) (n : Nat) : Prop := Cond.methodLink own idx y ∈ Tw ∧ Cond.static y ∈ Tw ∧ Cond.initialized y.cls ∈ Tw ∧ Cond.codeWith y b mL ret hh ∈ Tw ∧ okc y n ∧ mL ≤ 21
section WR
variable {p : Program} {e : Env} {R : Room} {s : State} {m : MethodId} {args : Array Value} {below : List Frame} {meth : Method} {c : Code} {H H0 : Heap} {locs : List Loc} {cells slots : Nat} {Q : State → Prop}
variable {cc : ByteArray} {pc nL : Nat} {ls : Array Slot} {rest st0 : List Value} {E : ET} {own : String} {hh : List (Nat × Nat × Nat × Nat)}
variable {idx k k' mc ms mc' ms' n mL a ci N : Nat} {y : MethodName} {b : ByteArray} {ret : Option FieldType} {As : List Value} {v : Value} {fs : List Value} {T : u_T}
theorem cwW9 (hts : ∀ w ∈ Tw, w.before args s = true) (h : kwW own idx y b mL ret hh n) (hk : k' + 1 ≤ k) : vx_CSW (rmk k mc ms) s args own idx y b mL ret hh (ww y b mL ret hh) (rmk k' mc' ms') mc' ms' n := by
  obtain ⟨h1, h2, h4, h5, h6, h7⟩ := h
  refine vx_cwSW n hts (fun w hw => ?_) rfl rfl rfl h6 ⟨hk, ?_⟩
  · simp only [va_wsS, List.cons_append, List.nil_append] at hw
    rcases List.mem_cons.mp hw with rfl | hw
    · exact good1 h1
    rcases List.mem_cons.mp hw with rfl | hw
    · exact good1 h2
    rcases List.mem_cons.mp hw with rfl | hw
    · exact good1 h4
    rcases List.mem_cons.mp hw with rfl | hw
    · exact good1 h5
    · exact good1 hw
  · show 8 + (mL + 11) + 40 * k' ≤ 40 * k
    omega
/-- a call of a wrapper -/
theorem gW {out : Option Value → Heap → Prop} (hx : p.tables.exec = Jvm.exec) (hb : c.code = cc) (hml : c.maxLocals = nL) (hts : ∀ w ∈ Tw, w.before args s = true) (hown : s.vm.findClass own = some m.cls) (hB : eB E ≤ s.heap.size) (hE : EV E s H) (hS : va_S (fr E) s.heap H locs) (kw : kwW own idx y b mL ret hh n) (hM : WCon E y b mL ret hh k' mc' ms' As H out) (hk : k' + 1 ≤ k) (hn : As.length = n) (hl : ls.size = nL) (hst : st0 = As.reverse ++ rest) (hW : (rest.map fun v => v.category).sum ≤ 8) (hcs : cells + mc' ≤ mc) (hss : slots + ms' ≤ ms) (hdg : decode cc pc = .ok (.invokestatic idx, 3))
    (kk : ∀ (v : Option Value) (H1 : Heap) (locs1 : List Loc), out v H1 → H.size ≤ H1.size → EV E s H1 → va_S (fr E) s.heap H1 locs1 → W p (eL E) e (rmk k mc ms) s m args below meth c H1 locs1 (cells + mc') (slots + ms') Q (F0 m (pc + 3) ls (v.toList ++ rest))) : W p (eL E) e (rmk k mc ms) s m args below meth c H locs cells slots Q (F0 m pc ls st0) :=
  x_go hB hE hS (vx_runSX (g := F0 m pc ls st0) (As := As) (rest := rest) ⟨hx, hb, hml, hown, hts⟩ hM (cwW9 hts kw hk) ⟨PC.blind, fun U hU hW => ⟨rfl, hU, by rw [hU]; exact hE.warm hW⟩⟩ rfl hn hl hst (lv_room hW) hdg ⟨hcs, hss⟩)
    (fun X ce q9 H1 locs1 h => h.elim) kk
/-- a call of a method that may throw, where its throws are caught -/
theorem xVh {out : Option Value → Heap → Prop} {bad : String → Prop} (hx : p.tables.exec = Jvm.exec) (hb : c.code = cc) (hml : c.maxLocals = nL) (hts : ∀ w ∈ Tw, w.before args s = true) (hown : s.vm.findClass own = some m.cls) (hB : eB E ≤ s.heap.size) (hE : EV E s H) (hS : va_S (fr E) s.heap H locs) (kw : kwV own idx y b mL ret n) (hM : XCon E y b mL ret k' mc' ms' (.ref a :: As) H out bad) (hO : OB E ci fs a H) (hc : vwCl[ci]? = some (y.cls, T, N)) (hk : k' + 1 ≤ k) (hn : As.length = n) (hl : ls.size = nL) (hst : st0 = As.reverse ++ .ref a :: rest) (hW : (rest.map fun v => v.category).sum ≤ 8) (hcs : cells + mc' ≤ mc) (hss : slots + ms' ≤ ms) (hdg : decode cc pc = .ok (.invokevirtual idx, 3))
    (kx : ∀ (X : String) (ce : Cell) (q9 : Addr) (H1 : Heap) (locs1 : List Loc), bad X → H.size ≤ H1.size → (∀ q : Nat, q < H.size → H1[q]? = H[q]?) → EV E s H1 → va_S (fr E) s.heap H1 locs1 → H1[q9]? = some ce → ce.vm = .none → s.vm.findClass X = some ce.cls → vx_W p (eL E) e (rmk k mc ms) s m args below meth c H1 locs1 (cells + mc') (slots + ms') Q (F0 m pc ls rest) q9)
    (kk : ∀ (v : Option Value) (H1 : Heap) (locs1 : List Loc), out v H1 → H.size ≤ H1.size → EV E s H1 → va_S (fr E) s.heap H1 locs1 → W p (eL E) e (rmk k mc ms) s m args below meth c H1 locs1 (cells + mc') (slots + ms') Q (F0 m (pc + 3) ls (v.toList ++ rest))) : W p (eL E) e (rmk k mc ms) s m args below meth c H locs cells slots Q (F0 m pc ls st0) :=
  x_go hB hE hS (vx_runV (g := F0 m pc ls st0) (As := As) (rest := rest) ⟨hx, hb, hml, hown, hts⟩ hM (cwV9 hts kw hk) ⟨PC.blind, recv9 hE hO hc, fun U hU hW => ⟨rfl, hU, by rw [hU]; exact hE.warm hW⟩⟩ rfl hn hl hst (lv_room hW) hdg ⟨hcs, hss⟩) kx kk
/-- what is thrown is caught by the entry behind pre9 -/
theorem ctc {pre9 suf9 : List (Nat × Nat × Nat × Nat)} {e9 h9 ct : Nat} {X : String} {ce : Cell} {q9 : Addr} (hts : ∀ w ∈ Tw, w.before args s = true) (hown : s.vm.findClass own = some m.cls) (hxt : c.exceptionTable.toList = tableOf hh) (hE : EV E s H) (hsp : hh = pre9 ++ (0, e9, h9, ct) :: suf9) (hpre : ∀ z ∈ pre9, z.2.2.2 ≠ 0 ∧ ∃ nm, Cond.classLink own z.2.2.2 nm ∈ Tw ∧ (X, nm) ∈ ncL) (hct : ct ≠ 0) (hlink : Cond.classLink own ct X ∈ Tw) (hcas : (X, X) ∈ casL) (hcov : covers ⟨0, e9, h9, ct⟩ pc = true) (hcell : H[q9]? = some ce) (hv : ce.vm = .none) (hcl : s.vm.findClass X = some ce.cls)
    (kk : W p (eL E) e R s m args below meth c H locs cells slots Q (F0 m h9 ls [.ref q9])) : vx_W p (eL E) e R s m args below meth c H locs cells slots Q (F0 m pc ls rest) q9 := by
  have hca : va_Nw (.castable X X) s := hE.2.2.2.2.2.2.2.2.2.1 (X, X) hcas
  refine vx_catch hown (tableOf pre9) ⟨0, e9, h9, ct⟩ (tableOf suf9) (by rw [hxt, hsp]; simp [tableOf]) (fun z hz => ?_) hcov hct (hts _ hlink) (va_Nw.use rfl hca) hcell hv hcl kk
  obtain ⟨w, hw, ez⟩ := List.mem_map.mp hz
  obtain ⟨g1, nm, g2, g3⟩ := hpre w hw
  subst ez
  exact Or.inr ⟨g1, nm, hts _ g2, hE.2.2.2.2.2.2.2.2.2.2.1 (X, nm) g3⟩
end WR
theorem XR.kept {E : ET} {ow ow' : Nat → Nat × Nat} {x : Nat} {h0 h1 fx : Dy} {ts : List TR} {H H' : Heap} (h : XR E ow x h0 h1 fx ts H) (hF : ∀ q, q < eB E → H'[q]? = H[q]?) (hB : eF E < eB E) (hq : ∀ q, q < H.size → (ow q).1 ≠ 4 → H'[q]? = H[q]?) (hw : ∀ q, q < H.size → ow' q = ow q) : XR E ow' x h0 h1 fx ts H' := by
  obtain ⟨q, fd, bk, wa, hO, hC, hD, hL, hT, hx, hg⟩ := h
  exact ⟨q, fd, bk, wa, pk1 hO (hq x (plt hO) (by rw [hx]; decide)), hC.kept hF hB (fun z h9 h8 => hq z h9 (by omega)) hw, hD.kept hF hB (fun z h9 h8 => hq z h9 (by omega)) hw, hL.kept hF hB (fun z h9 h8 => hq z h9 (by rcases h8 with e | e <;> (rw [e]; decide))) hw, fun t tr ht => (hT t tr ht).kept hF hB (fun z h9 h8 => hq z h9 (by omega)) hw, by rw [hw x (plt hO)]; exact hx, hg⟩
theorem MW.kept {E : ET} {ow ow' : Nat → Nat × Nat} {x : Nat} {h0 h1 fx : Dy} {ts : List TR} {B : BK} {c : Nat} {H H' : Heap} (h : MW E ow x h0 h1 fx ts B c H) (hq : ∀ q, q < H.size → (ow q).1 = 4 → (ow q).2 ≤ 23 → H'[q]? = H[q]?) (hw : ∀ q, q < H.size → ow' q = ow q) : MW E ow' x h0 h1 fx ts B c H' := by
  obtain ⟨sc, ad, ar, ⟨⟨hO, hA⟩, ⟨h1', h2'⟩, h3⟩, hI, hc⟩ := h
  refine ⟨sc, ad, ar, ⟨⟨pk1 hO (hq x (plt hO) (by rw [h1']) (by rw [h1']; exact Nat.zero_le _)), fun k hk => pk1 (hA k hk) (hq _ (plt (hA k hk)) (by rw [(h3 k hk).1]) (by rw [(h3 k hk).1]; exact (mK_0 hk).2))⟩, ⟨by rw [hw x (plt hO)]; exact h1', h2'⟩, fun k hk => ⟨by rw [hw _ (plt (hA k hk))]; exact (h3 k hk).1, (h3 k hk).2⟩⟩, hI, hc⟩
/-- what a wrapper leaves: the office, the answer in the out array at o -/
def WOut (E : ET) (ow : Nat → Nat × Nat) (x o : Nat) (h0 h1 fx : Dy) (ts : List TR) (P : (Nat → Int64) → Prop) (H H' : Heap) : Prop := ∃ (ow' : Nat → Nat × Nat) (f : Nat → Int64), (∀ q, q < H.size → ow' q = ow q) ∧ (∀ q, H.size ≤ q → (ow' q).1 ≠ 4) ∧ XR E ow' x h0 h1 fx ts H' ∧ JA E 1 f o H' ∧ P f ∧ FR (fun z => (ow z).1 ≠ 4 ∨ z = o) H H'
/-- nothing but new cells -/
theorem WOut.same {E : ET} {ow : Nat → Nat × Nat} {x o : Nat} {h0 h1 fx : Dy} {ts : List TR} {f : Nat → Int64} {P : (Nat → Int64) → Prop} {H H' : Heap} (hX : XR E ow x h0 h1 fx ts H) (hJ : JA E 1 f o H) (hz : H.size ≤ H'.size) (hq : ∀ q : Nat, q < H.size → H'[q]? = H[q]?) (hBF : eF E < eB E) (hg : eB E ≤ H.size) (hP : P f) : WOut E ow x o h0 h1 fx ts P H H' :=
  ⟨owx ow H (6, 0), f, fun q h => owx_old h, fun q h => by rw [owx_new h]; decide, hX.kept (fun q h => hq q (by omega)) hBF (fun q h _ => hq q h) (fun q h => owx_old h), pk1 hJ (hq o (plt hJ)), hP, ⟨hz, fun q h _ => hq q h⟩⟩
/-- a writer's office, and then the answer in the out array -/
theorem WOut.put {E : ET} {ow : Nat → Nat × Nat} {x o : Nat} {h0 h1 fx : Dy} {ts : List TR} {f : Nat → Int64} {P : (Nat → Int64) → Prop} {H H1 H' : Heap} (hX : XOut E ow x h0 h1 fx ts H H1) (hJ : JA E 1 f o H') (ho : ow o = (4, 100)) (hol : o < H.size) (hgo : eB E ≤ o) (hz : H'.size = H1.size) (hq : ∀ q : Nat, q ≠ o → H'[q]? = H1[q]?) (hBF : eF E < eB E) (hP : P f) : WOut E ow x o h0 h1 fx ts P H H' := by
  obtain ⟨ow', e1, e2, hR, hF⟩ := hX
  have hoo : ow' o = (4, 100) := (e1 o hol).trans ho
  refine ⟨ow', f, e1, e2, hR.kept (fun q h => hq q (by omega)) hBF (fun q h h4 => hq q (fun e => h4 (by rw [e, hoo]))) (fun _ _ => rfl), hJ, hP, ⟨by rw [hz]; exact hF.1, fun q h hn => (hq q (fun e => hn (Or.inr e))).trans (hF.2 q h (fun e => hn (Or.inl e)))⟩⟩
theorem XOut.rf {E : ET} {ow : Nat → Nat × Nat} {x : Nat} {h0 h1 fx : Dy} {ts : List TR} {H : Heap} (hX : XR E ow x h0 h1 fx ts H) : XOut E ow x h0 h1 fx ts H H :=
  ⟨owx ow H (6, 0), fun q h => owx_old h, fun q h => by rw [owx_new h]; decide, hX.lab (Nat.le_refl _) (Nat.le_refl _), FR.rf⟩
