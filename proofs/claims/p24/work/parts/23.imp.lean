section IMP
variable {p : Program} {e : Env} {R : Room} {s : State} {m : MethodId} {args : Array Value} {below : List Frame} {meth : Method} {c : Code} {H H0 : Heap} {locs : List Loc} {cells slots : Nat} {Q : State → Prop}
variable {cc : ByteArray} {pc nL : Nat} {ls : Array Slot} {rest st0 : List Value} {E : ET} {own : String}
variable {idx k k' mc ms mc' ms' n mL a ci N : Nat} {y : MethodName} {b : ByteArray} {ret : Option FieldType} {As : List Value} {v : Value} {fs : List Value} {T : u_T}
/-- what has changed since H0: cells of M alone, and new ones -/
def FR (M : Nat → Prop) (H0 H : Heap) : Prop := H0.size ≤ H.size ∧ ∀ q : Nat, q < H0.size → ¬ M q → H[q]? = H0[q]?
theorem FR.rf {M : Nat → Prop} {H : Heap} : FR M H H := ⟨Nat.le_refl _, fun _ _ _ => rfl⟩
theorem FR.put {M : Nat → Prop} {H0 H H1 : Heap} {a : Nat} (h : FR M H0 H) (z : H1.size = H.size) (o : ∀ q : Nat, q ≠ a → H1[q]? = H[q]?) (ha : a < H0.size → M a) : FR M H0 H1 :=
  ⟨by rw [z]; exact h.1, fun q hq hm => (o q (fun e => hm (e ▸ ha (e ▸ hq)))).trans (h.2 q hq hm)⟩
theorem FR.new {M : Nat → Prop} {H0 H H1 : Heap} (h : FR M H0 H) (z : H.size ≤ H1.size) (o : ∀ q : Nat, q < H.size → H1[q]? = H[q]?) : FR M H0 H1 :=
  ⟨Nat.le_trans h.1 z, fun q hq hm => (o q (Nat.lt_of_lt_of_le hq h.1)).trans (h.2 q hq hm)⟩
theorem FR.tr {M M1 : Nat → Prop} {H0 H H1 : Heap} (h : FR M H0 H) (h1 : FR M1 H H1) (hm : ∀ q : Nat, q < H0.size → M1 q → M q) : FR M H0 H1 :=
  ⟨Nat.le_trans h.1 h1.1, fun q hq hn => (h1.2 q (Nat.lt_of_lt_of_le hq h.1) (fun x => hn (hm q hq x))).trans (h.2 q hq hn)⟩
theorem FR.at {M : Nat → Prop} {H0 H : Heap} {a : Nat} {x : va_E} (h : FR M H0 H) (ho : va_P (eD E) vwCl [(a, x)] H0) (hm : ¬ M a) : va_P (eD E) vwCl [(a, x)] H := pk1 ho (h.2 a (plt ho) hm)
theorem pk2 {H1 : Heap} {a b : Nat} {x : va_E} (h : va_P (eD E) vwCl [(b, x)] H) (o : ∀ q : Nat, q ≠ a → H1[q]? = H[q]?) (hn : b ≠ a) : va_P (eD E) vwCl [(b, x)] H1 := pk1 h (o b hn)
theorem pk3 {H1 : Heap} {b : Nat} {x : va_E} (h : va_P (eD E) vwCl [(b, x)] H) (o : ∀ q : Nat, q < H.size → H1[q]? = H[q]?) : va_P (eD E) vwCl [(b, x)] H1 := pk1 h (o b (plt h))
theorem SFR (h : va_S (fr E) s.heap H locs) {H1 : Heap} {a i : Nat} (z : H1.size = H.size) (o : ∀ q : Nat, q ≠ a → H1[q]? = H[q]?) (ha : eB E ≤ a) : va_S (fr E) s.heap H1 (locs ++ [⟨a, i⟩]) := va_S.put h z o ha
theorem EVp (hE : EV E s H) {H1 : Heap} {a : Nat} (z : H1.size = H.size) (o : ∀ q : Nat, q ≠ a → H1[q]? = H[q]?) (ha : eB E ≤ a) : EV E s H1 := hE.kept (Nat.le_of_eq z.symm) (fun q hq => o q (fun e => by omega))
theorem EVn (hE : EV E s H) {H1 : Heap} (z : H.size ≤ H1.size) (o : ∀ q : Nat, q < H.size → H1[q]? = H[q]?) : EV E s H1 := hE.kept z (fun q hq => o q (Nat.lt_of_lt_of_le hq hE.2.1))
theorem SFn (h : va_S (fr E) s.heap H locs) {H1 : Heap} (z : H.size ≤ H1.size) (o : ∀ q : Nat, q < H.size → H1[q]? = H[q]?) : va_S (fr E) s.heap H1 locs := ⟨Nat.le_trans h.1 z, fun q h1 h2 => (o q (Nat.lt_of_lt_of_le h1 h.1)).trans (h.2.1 q h1 h2), h.2.2⟩
theorem one9 {a : Nat} {x : va_E} {H : Heap} (h : va_at (eD E) vwCl (a, x) H) : va_P (eD E) vwCl [(a, x)] H := fun k q hk => by
  cases k with
  | zero => cases hk; exact h
  | succ k => cases hk
/-! putfield -/
def PK (own : String) (idx : Nat) (C : String) (T : u_T) (N ci k : Nat) (ref : String) (ty0 : Nat → FieldType) : Prop := LK own idx C T N ci k ref ∧ (∀ j, j < N → parseFieldDescriptor (T j).2.2.1 = some (ty0 j)) ∧ (∀ i, i < N → ∀ j, j < N → i ≠ j → (T i).2.1 ≠ (T j).2.1)
theorem pf {C : String} {k : Nat} {ref : String} {ty0 : Nat → FieldType} (hx : p.tables.exec = Jvm.exec) (hb : c.code = cc) (hts : ∀ w ∈ Tw, w.before args s = true) (hown : s.vm.findClass own = some m.cls) (hE : EV E s H) (hS : va_S (fr E) s.heap H locs) (hk : PK own idx C T N ci k ref ty0) (hfin : (T k).2.2.2 = false) (hO : OB E ci fs a H) (ha : eB E ≤ a) (hn : narrow (ty0 k) v = v) (hfit : fits (ty0 k) v = true) (hl : k < fs.length) (hdg : decode cc pc = .ok (.putfield idx, 3))
    (kk : ∀ (H1 : Heap) (locs1 : List Loc), OB E ci (fs.set k v) a H1 → H1.size = H.size → (∀ q : Nat, q ≠ a → H1[q]? = H[q]?) → EV E s H1 → va_S (fr E) s.heap H1 locs1 → W p (eL E) e R s m args below meth c H1 locs1 cells slots Q (F0 m (pc + 3) ls rest)) : W p (eL E) e R s m args below meth c H locs cells slots Q (F0 m pc ls (v :: .ref a :: rest)) := by
  obtain ⟨hlk, hty, hnm⟩ := hk
  have hK := hE.K
  have hap := va_apart (own := own) hts hlk.1 ty0 hty hnm hK hlk.2.1
  obtain ⟨r, h1, cell, q1, q2, q3, q4⟩ := hO 0 _ rfl
  have hr : r = (C, T, N) := Option.some.inj (h1.symm.trans hlk.2.1)
  subst hr
  obtain ⟨hSl, hfc, kC, hkC, hkind⟩ := hK.1 ci _ hlk.2.1
  obtain ⟨cf, kf, fi, f, hi, hsl⟩ := hSl k hlk.2.2.1
  have hlay := hts _ (hlk.1 _ (u_in_lay hlk.2.2.1))
  unfold u_lay at hlay
  rw [if_neg (by rw [hfin]; decide)] at hlay
  have hst := (u_facts hfc hkC (u_lays hts hlk.1 hlk.2.2.1) hi).1
  have h6 := u_store hfc hkC hkind hlay hi (hty k hlk.2.2.1) hn hfit
  refine W.putK hx hb (f := f) ⟨hown, hts _ hlk.2.2.2.1, ⟨_, _, _, hlk.same hts _ hi⟩, hst⟩ (by rw [q2]; exact h6) q1 q3 (by rw [hsl]; exact k2_hasslot (q4 k hlk.2.2.1)) rfl rfl hdg fun H' e1 e2 e3 => ?_
  rw [hsl] at e1 ⊢
  exact kk H' _ (one9 ⟨_, hlk.2.1, t_OB.to (V := updV (vp_V fs) k v) ⟨_, e1, q2, q3, t_set q4 hap hlk.2.2.1 v⟩ (fun j _ => vp_updV_set hl v j)⟩) e2 e3 (EVp hE e2 e3 ha) (SFR hS e2 e3 ha)
/-- .. a final field, in its class's constructor -/
theorem pfF {C : String} {k : Nat} {ref : String} {ty0 : Nat → FieldType} (hx : p.tables.exec = Jvm.exec) (hb : c.code = cc) (hts : ∀ w ∈ Tw, w.before args s = true) (hown : s.vm.findClass own = some m.cls) (hin2 : meth.name = "<init>") (hE : EV E s H) (hS : va_S (fr E) s.heap H locs) (hk : PK own idx C T N ci k ref ty0) (hfin : (T k).2.2.2 = true) (hdecl : (T k).1 = own) (hO : OB E ci fs a H) (ha : eB E ≤ a) (hn : narrow (ty0 k) v = v) (hfit : fits (ty0 k) v = true) (hl : k < fs.length) (hdg : decode cc pc = .ok (.putfield idx, 3))
    (kk : ∀ (H1 : Heap) (locs1 : List Loc), OB E ci (fs.set k v) a H1 → H1.size = H.size → (∀ q : Nat, q ≠ a → H1[q]? = H[q]?) → EV E s H1 → va_S (fr E) s.heap H1 locs1 → W p (eL E) e R s m args below meth c H1 locs1 cells slots Q (F0 m (pc + 3) ls rest)) : W p (eL E) e R s m args below meth c H locs cells slots Q (F0 m pc ls (v :: .ref a :: rest)) := by
  obtain ⟨hlk, hty, hnm⟩ := hk
  have hK := hE.K
  have hap := va_apart (own := own) hts hlk.1 ty0 hty hnm hK hlk.2.1
  obtain ⟨r, h1, cell, q1, q2, q3, q4⟩ := hO 0 _ rfl
  have hr : r = (C, T, N) := Option.some.inj (h1.symm.trans hlk.2.1)
  subst hr
  obtain ⟨hSl, hfc, kC, hkC, hkind⟩ := hK.1 ci _ hlk.2.1
  obtain ⟨cf, kf, fi, f, hi, hsl⟩ := hSl k hlk.2.2.1
  have hlay := hts _ (hlk.1 _ (u_in_lay hlk.2.2.1))
  unfold u_lay at hlay
  rw [if_pos hfin] at hlay
  have hst := (u_facts hfc hkC (u_lays hts hlk.1 hlk.2.2.1) hi).1
  have hcf : m.cls = cf := by
    obtain ⟨_, _, c', _, _, _, -, -, hf', -, -, -, hown2, -⟩ := Cond.laysFinal_spec hlay
    have e1 : c' = cf := by have := hi.symm.trans hf'; simp at this; exact this.1.symm
    rw [hdecl] at hown2
    rw [← e1]; exact Option.some.inj (hown.symm.trans hown2)
  have h6 := u_fits hfc hkC hkind (Or.inr hlay) hi (hty k hlk.2.2.1) hn hfit
  refine W.putFinK hx hb hown (hts _ hlk.2.2.2.1) (hlk.same hts _ hi) hst hcf hin2 (by rw [q2]; exact h6) q1 q3 (by rw [hsl]; exact k2_hasslot (q4 k hlk.2.2.1)) rfl rfl hdg fun H' e1 e2 e3 => ?_
  rw [hsl] at e1 ⊢
  exact kk H' _ (one9 ⟨_, hlk.2.1, t_OB.to (V := updV (vp_V fs) k v) ⟨_, e1, q2, q3, t_set q4 hap hlk.2.2.1 v⟩ (fun j _ => vp_updV_set hl v j)⟩) e2 e3 (EVp hE e2 e3 ha) (SFR hS e2 e3 ha)
/-! array stores -/
theorem asI {f : Nat → Int32} {j : Nat} {i x : Int32} (hx : p.tables.exec = Jvm.exec) (hb : c.code = cc) (hE : EV E s H) (hS : va_S (fr E) s.heap H locs) (hA : IA E n f a H) (ha : eB E ≤ a) (hi : i = nI j) (hj : j < n) (hn : n < 2 ^ 31) (hdg : decode cc pc = .ok (.iastore, 1))
    (kk : ∀ (H1 : Heap) (locs1 : List Loc), IA E n (upd f j x) a H1 → H1.size = H.size → (∀ q : Nat, q ≠ a → H1[q]? = H[q]?) → EV E s H1 → va_S (fr E) s.heap H1 locs1 → W p (eL E) e R s m args below meth c H1 locs1 cells slots Q (F0 m (pc + 1) ls rest)) : W p (eL E) e R s m args below meth c H locs cells slots Q (F0 m pc ls (.int x :: .int i :: .ref a :: rest)) := by
  subst hi
  refine W.iast hx hb (hA 0 _ rfl) ((hE.K.2 0 _ rfl).1 n (fun j => .int (f j))) (fun q => by cases q) (by show ¬ (nI j < 0 ∨ (arrV _ _ _).slots.size ≤ _); rw [arrV_size]; exact vp_in_nI hj hn) rfl rfl hdg fun H1 e z oq => ?_
  refine kk H1 _ (one9 ?_) z oq (EVp hE z oq ha) (SFR hS z oq ha)
  show H1[a]? = some (vp_cell _ _)
  rw [e]
  rw [vp_cell_i, vp_cell_i, arrV_store, nI_clamp (by omega)]
  congr 2
  funext q
  by_cases hq : q = j
  · subst hq
    simp [updV, upd]
  · simp [updV, upd, hq]
theorem asQ {f : Nat → Option Nat} {j v : Nat} {i : Int32} {C : String} (hx : p.tables.exec = Jvm.exec) (hb : c.code = cc) (hE : EV E s H) (hS : va_S (fr E) s.heap H locs) (hA : QA E n f a H) (ha : eB E ≤ a) (hO : OB E ci fs v H) (hc : vwCl[ci]? = some (C, T, N)) (hca : (C, xO) ∈ casL) (hi : i = nI j) (hj : j < n) (hn : n < 2 ^ 31) (hdg : decode cc pc = .ok (.aastore, 1))
    (kk : ∀ (H1 : Heap) (locs1 : List Loc), QA E n (va_up f j (some v)) a H1 → H1.size = H.size → (∀ q : Nat, q ≠ a → H1[q]? = H[q]?) → EV E s H1 → va_S (fr E) s.heap H1 locs1 → W p (eL E) e R s m args below meth c H1 locs1 cells slots Q (F0 m (pc + 1) ls rest)) : W p (eL E) e R s m args below meth c H locs cells slots Q (F0 m pc ls (.ref v :: .int i :: .ref a :: rest)) := by
  subst hi
  have hin := vp_in_nI hj hn
  have h0 : ¬ nI j < 0 := fun q => hin (Or.inl q)
  have hca : va_Nw (.castable C xO) s := hE.2.2.2.2.2.2.2.2.2.1 (C, xO) hca
  obtain ⟨r', hr', cellV, g1, g2, g3, -⟩ := hO 0 _ rfl
  have hcls := (hE.K.1 ci _ hc).2
  obtain ⟨kA, comp, k1, k2, k3, -⟩ := (hE.K.2 2 _ rfl).2
  obtain ⟨kE, hkE, -⟩ := Vm.findClass_spec k3
  obtain ⟨c0, t1, f1, f2, f3⟩ := Cond.castable_spec (va_Nw.use (A := args) rfl hca)
  cases hcls.1.symm.trans f1
  cases k3.symm.trans f2
  obtain ⟨kC, hkC, -⟩ := hcls.2
  refine W.aast hx hb (hA 0 _ rfl) (fun q h => by cases h) (fun h => by cases h) k1 k2 rfl hkE ⟨h0, by show _ < (arrV _ _ _).slots.size; rw [arrV_size, nI_clamp (by omega)]; exact hj⟩ g1 (fun q h => by rw [g3] at h; cases h) (by rw [g2]; exact hkC) (by rw [g2]; exact f3) rfl rfl hdg fun H1 e z oq => ?_
  refine kk H1 _ (one9 ?_) z oq (EVp hE z oq ha) (SFR hS z oq ha)
  show H1[a]? = some (vp_cell _ _)
  rw [e]
  rw [vp_cell_q, vp_cell_q, arrV_store, nI_clamp (by omega)]
  congr 2
  funext q
  by_cases hq : q = j
  · subst hq
    simp [updV, va_up, va_rf]
  · simp [updV, va_up, hq]
/-! new objects and arrays -/
def NK (own : String) (idx : Nat) (C : String) (T : u_T) (N ci : Nat) (ty0 : Nat → FieldType) : Prop := (∀ w ∈ u_ws C T N, w ∈ Tw) ∧ vwCl[ci]? = some (C, T, N) ∧ Cond.classLink own idx C ∈ Tw ∧ Cond.instantiable C N ∈ Tw ∧ Cond.initialized C ∈ Tw ∧ (∀ j, j < N → parseFieldDescriptor (T j).2.2.1 = some (ty0 j))
theorem nw {C : String} {ty0 : Nat → FieldType} (hx : p.tables.exec = Jvm.exec) (hb : c.code = cc) (hts : ∀ w ∈ Tw, w.before args s = true) (hown : s.vm.findClass own = some m.cls) (hE : EV E s H) (hS : va_S (fr E) s.heap H locs) (hk : NK own idx C T N ci ty0) (hfs : ∀ j, j < N → defaultValue (ty0 j) = vp_V fs j) (hc : cells + 1 ≤ mc) (hs : slots + N ≤ ms) (hdg : decode cc pc = .ok (.new idx, 3))
    (kk : ∀ (a : Nat) (H1 : Heap), a = H.size → OB E ci fs a H1 → H1.size = H.size + 1 → (∀ q : Nat, q < H.size → H1[q]? = H[q]?) → EV E s H1 → va_S (fr E) s.heap H1 locs → eB E ≤ a → W p (eL E) e (rmk k mc ms) s m args below meth c H1 locs (cells + 1) (slots + N) Q (F0 m (pc + 3) ls (.ref a :: rest))) : W p (eL E) e (rmk k mc ms) s m args below meth c H locs cells slots Q (F0 m pc ls rest) := by
  obtain ⟨h1, h2, h3, h4, h5, h6⟩ := hk
  have hKn := hE.K.1 ci _ h2
  refine W.newcK hx hb hown (hts _ h3) (hts _ h4) (hts _ h5) rfl hdg hc hs hKn.2.1 rfl fun H1 kC hkC e1 z1 o1 => ?_
  exact kk H.size H1 rfl (one9 ⟨_, h2, (u_born ty0 hts h1 hKn hkC e1 h6).to hfs⟩) z1 o1 (EVn hE (by omega) o1) (SFn hS (by omega) o1) hE.2.1
theorem naI {z : Int32} {N' : Nat} (hx : p.tables.exec = Jvm.exec) (hb : c.code = cc) (hts : ∀ w ∈ Tw, w.before args s = true) (hE : EV E s H) (hS : va_S (fr E) s.heap H locs) (hw : Cond.arrayClass .int ∈ Tw) (hz : z = nI N') (hN : N' ≤ 100000) (hc : cells + 1 ≤ mc) (hs : slots + N' ≤ ms) (hdg : decode cc pc = .ok (.newarray .int, 2))
    (kk : ∀ (a : Nat) (H1 : Heap), a = H.size → IA E N' (fun _ => 0) a H1 → H1.size = H.size + 1 → (∀ q : Nat, q < H.size → H1[q]? = H[q]?) → EV E s H1 → va_S (fr E) s.heap H1 locs → eB E ≤ a → W p (eL E) e (rmk k mc ms) s m args below meth c H1 locs (cells + 1) (slots + N') Q (F0 m (pc + 2) ls (.ref a :: rest))) : W p (eL E) e (rmk k mc ms) s m args below meth c H locs cells slots Q (F0 m pc ls (.int z :: rest)) := by
  subst hz
  refine va_newaK hx hb (atype := .int) (hts _ hw) rfl hdg rfl (nI_pos (by omega)) (nI_clamp (by omega)) (by show N' * 4 ≤ _; omega) hc hs rfl fun H1 cA e1 z1 o1 hAr hNm => ?_
  have hcA : cA = eA E 0 := Option.some.inj (hNm.symm.trans (hE.K.2 0 _ rfl).2)
  subst hcA
  exact kk H.size H1 rfl (one9 e1) z1 o1 (EVn hE (by omega) o1) (SFn hS (by omega) o1) hE.2.1
theorem naQ {z : Int32} {N' : Nat} (hx : p.tables.exec = Jvm.exec) (hb : c.code = cc) (hts : ∀ w ∈ Tw, w.before args s = true) (hown : s.vm.findClass own = some m.cls) (hE : EV E s H) (hS : va_S (fr E) s.heap H locs) (hw : Cond.classLink own idx xO ∈ Tw) (hz : z = nI N') (hN : N' ≤ 100000) (hc : cells + 1 ≤ mc) (hs : slots + N' ≤ ms) (hdg : decode cc pc = .ok (.anewarray idx, 3))
    (kk : ∀ (a : Nat) (H1 : Heap), a = H.size → QA E N' (fun _ => none) a H1 → H1.size = H.size + 1 → (∀ q : Nat, q < H.size → H1[q]? = H[q]?) → EV E s H1 → va_S (fr E) s.heap H1 locs → eB E ≤ a → W p (eL E) e (rmk k mc ms) s m args below meth c H1 locs (cells + 1) (slots + N') Q (F0 m (pc + 3) ls (.ref a :: rest))) : W p (eL E) e (rmk k mc ms) s m args below meth c H locs cells slots Q (F0 m pc ls (.int z :: rest)) := by
  subst hz
  refine W.anew hx hb hown (hts _ hw) (va_AO.use hE.2.2.2.2.2.2.2.2.2.2.2.2.2.1) rfl hdg rfl (nI_pos (by omega)) (by rw [nI_clamp (by omega)]; omega) hc (by rw [nI_clamp (by omega)]; exact hs) fun cA kA comp f1 f2 f3 f4 => ?_
  rw [nI_clamp (by omega)]
  generalize hH1 : H.push ({ cls := cA, slots := Array.replicate N' .null, vm := .none } : Cell) = H1
  have z1 : H1.size = H.size + 1 := by rw [← hH1, Array.size_push]
  have e1 : H1[H.size]? = some (arrV cA N' (fun _ => .null)) := by rw [← hH1, Array.getElem?_push_size, ← arrV_new]
  have o1 : ∀ q : Nat, q < H.size → H1[q]? = H[q]? := fun q hq => by rw [← hH1, Array.getElem?_push, if_neg (Nat.ne_of_lt hq)]
  have hcA : cA = eA E 2 := by
    obtain ⟨kA2, comp2, k1, k2, k3, k4⟩ := (hE.K.2 2 _ rfl).2
    exact Option.some.inj (f1.symm.trans k4)
  subst hcA
  exact kk H.size H1 rfl (one9 (by show H1[H.size]? = some (vp_cell _ _); rw [vp_cell_q]; exact e1)) z1 o1 (EVn hE (by omega) o1) (SFn hS (by omega) o1) hE.2.1
end IMP
