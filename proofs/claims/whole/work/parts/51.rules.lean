/-! the law's own rules, and its cases -/
def LX (p : Program) (s : State) (m : MethodId) (c : Code) (b L n : Nat) (xs A : Nat → Int32) (E : ET) (o : Nat) : Prop := p.tables.exec = Jvm.exec ∧ c.code = cL_law ∧ c.maxLocals = 8 ∧ s.vm.findClass RL = some m.cls ∧ (∀ w ∈ Tw, w.before #[Value.ref b] s = true) ∧ eB E = s.heap.size ∧ va_X b L xs s s.heap ∧ b < s.heap.size ∧ eB E ≤ o ∧ 8 * n + 8 ≤ L ∧ L ≤ 4096 ∧ ∀ k, k < 8 → xs (8 * n + k) = A k
section LRU
variable {p : Program} {l : Launch} {e : Env} {R : Room} {s : State} {m : MethodId} {args : Array Value} {below : List Frame} {meth : Method} {c : Code} {H : Heap} {locs : List Loc} {cells slots : Nat} {Q : State → Prop}
variable {cc : ByteArray} {pc : Nat} {ls : Array Slot} {rest : List Value} {E : ET}
theorem lsd {b L n k : Nat} {xs A : Nat → Int32} {i : Int32} (hx : p.tables.exec = Jvm.exec) (hb : c.code = cc) (hX : va_X b L xs s s.heap) (hbl : b < s.heap.size) (hbA : ¬ fr E b) (hS : va_S (fr E) s.heap H locs) (hn : 8 * n + 8 ≤ L) (hL : L ≤ 4096) (hA : ∀ k, k < 8 → xs (8 * n + k) = A k) (hk : k < 8) (hi : i = nI (8 * n + k)) (hdg : decode cc pc = .ok (.iaload, 1))
    (kk : W p l e R s m args below meth c H locs cells slots Q (F0 m (pc + 1) ls (.int (A k) :: rest))) : W p l e R s m args below meth c H locs cells slots Q (F0 m pc ls (.int i :: .ref b :: rest)) := by
  subst hi
  refine va_sld hx hb hX hbl hbA hS (vp_in_nI (by omega) (by omega)) hdg ?_
  rw [nI_clamp (by omega), hA k hk]
  exact kk
theorem aJ0 {f : Nat → Int64} {a : Nat} (hx : p.tables.exec = Jvm.exec) (hb : c.code = cc) (hE : EV E s H) (hA : JA E 1 f a H) (hdg : decode cc pc = .ok (.laload, 1))
    (kk : W p (eL E) e R s m args below meth c H locs cells slots Q (F0 m (pc + 1) ls (.long (f 0) :: rest))) : W p (eL E) e R s m args below meth c H locs cells slots Q (F0 m pc ls (.int 0 :: .ref a :: rest)) := by
  refine va_lald hx hb hE.K hA 0 3 rfl rfl (vp_in_nI (n := 0) (N := 1) (by decide) (by decide)) hdg ?_
  exact kk
end LRU
theorem cd0 {n : Nat} (hn : n ≤ 3) (h : nI n = 0) : n = 0 := by
  rcases (show n = 0 ∨ n = 1 ∨ n = 2 ∨ n = 3 by omega) with e | e | e | e <;> subst e
  · rfl
  · exact absurd h (by decide)
  · exact absurd h (by decide)
  · exact absurd h (by decide)
theorem cdDay_le (d : Int32) : cdDay d ≤ 1 := ite_le (by decide) (by decide)
theorem cdPd_le (ts : List TR) (t k : Int32) : cdPd ts t k ≤ 1 := by
  unfold cdPd
  split
  · exact Nat.le_refl _
  · exact ite_le (by decide) (by decide)
theorem rd_go {E : ET} {ow : Nat → Nat × Nat} {x mo o : Nat} {h0 h1 fx : Dy} {ts : List TR} {B : BK} {c cd : Nat} {f : Nat → Int64} {V : Int64} {H H1 : Heap} (hw : (¬ cd = 0 ∧ WOut E ow x o h0 h1 fx ts (fun _ => True) H H1) ∨ (cd = 0 ∧ WOut E ow x o h0 h1 fx ts (fun g => g 0 = V) H H1)) (hM : MW E ow mo h0 h1 fx ts B c H) (hJ : JA E 1 f o H) (ho : ow o = (4, 100)) : ∃ (ow1 : Nat → Nat × Nat) (f1 : Nat → Int64), XR E ow1 x h0 h1 fx ts H1 ∧ MW E ow1 mo h0 h1 fx ts B c H1 ∧ JA E 1 f1 o H1 ∧ ow1 o = (4, 100) ∧ (cd = 0 → f1 0 = V) := by
  rcases hw with ⟨hc, hw⟩ | ⟨hc, hw⟩
  · obtain ⟨ow1, f1, a1, a2, a3, a4, -⟩ := hw.go hM hJ ho
    exact ⟨ow1, f1, a1, a2, a3, a4, fun q => absurd q hc⟩
  · obtain ⟨ow1, f1, a1, a2, a3, a4, a5⟩ := hw.go hM hJ ho
    exact ⟨ow1, f1, a1, a2, a3, a4, fun _ => a5⟩
theorem same_tr {h0 h1 fx : Dy} {ts : List TR} {t : Int32} {i j : Nat} {tr ur : TR} (hV : SV h0 h1 fx ts) (e1 : t = nI i) (h1' : ts[i]? = some tr) (e2 : t = nI j) (h2' : ts[j]? = some ur) : j = i ∧ ur = tr := by
  have a1 := lt_of_get h1'
  have a2 := lt_of_get h2'
  have a3 := hV.tn
  have e : j = i := (nI_eq (by omega) (by omega)).mp (e2.symm.trans e1)
  subst e
  exact ⟨rfl, Option.some.inj (h2'.symm.trans h1')⟩
theorem cd_ne {n : Nat} (hn : n ≤ 3) (h : ¬ n = 0) : ¬ nI n = 0 := fun e => h (cd0 hn e)
theorem big_fx {h0 h1 fx : Dy} {ts : List TR} (hV : SV h0 h1 fx ts) : fx.length ≤ 60 := hV.2.2.2.2.2.1
