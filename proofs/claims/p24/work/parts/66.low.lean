/-! low and cell -/
theorem and_max (v : Int32) : ¬ v &&& 2147483647 < 0 := by
  rw [Int32.lt_iff_toInt_lt]
  have a : ∀ y : Int32, y.toInt < (0 : Int32).toInt ↔ y.toBitVec.msb = true := fun y => by
    rw [BitVec.msb_eq_toInt]
    simp
  rw [a]
  have e : (v &&& 2147483647).toBitVec = v.toBitVec &&& (2147483647 : Int32).toBitVec := rfl
  rw [e, BitVec.msb_and]
  have e2 : (2147483647 : Int32).toBitVec.msb = false := by decide
  rw [e2]
  simp
def lw (v : Int32) (k : Nat) : Nat := (v &&& 2147483647).toNatClampNeg % k
theorem lw_lt {v : Int32} {k : Nat} (h : 0 < k) : lw v k < k := Nat.mod_lt _ h
theorem lw_eq {v : Int32} {k : Nat} (h : 0 < k) (hk : k < 2 ^ 31) : (v &&& 2147483647) - (v &&& 2147483647) / nI k * nI k = nI (lw v k) := by
  obtain ⟨j, hj, e⟩ := nI_of (and_max v)
  unfold lw
  rw [e, nI_clamp hj]
  exact pk_rem hj h hk
set_option maxRecDepth 100000 in
set_option maxHeartbeats 4000000 in
/-- low -/
theorem c_low (E : ET) (v n : Int32) (k : Nat) (H : Heap) (hn : n = nI k) (h0 : 0 < k) (hk : k < 2 ^ 31) : PCon E yL_low cL_low 2 (some FieldType.int) 1 [.int v, .int n] H (some (.int (nI (lw v k)))) := by
  subst hn
  refine PCon.of (C := RL) rfl (by decide +kernel) (Nat.le_of_ble_eq_true rfl) ?_
  intro p e s m below meth co ls hx hb hr hlk hml hown hts hE hH hl
  have hl : lv_has ls 2 [(0, .int v), (1, .int (nI k))] := hl
  refine lv_iload_n hx hb dL_low_0 rfl (lv_at hl 0 rfl) ?_
  refine lv_ldc (v := 2147483647) hx hb hown (hts _ qw2_222) dL_low_1 ?_
  refine lv_iand hx hb dL_low_3 ?_
  refine lv_iload_n hx hb dL_low_4 rfl (lv_at hl 1 rfl) ?_
  refine lv_irem hx hb dL_low_5 (nI_ne0 h0 hk) ?_
  exact pI hx hb hr hlk hH (lw_eq h0 hk) dL_low_6
/-- a cell of the script, or what stands for it behind its end -/
def clS (xs : Nat → Int32) (L k : Nat) : Int32 := if k < L then xs k else 7919 * (nI k + 3) * (nI k + 11)
def PX (E : ET) (b L : Nat) (xs : Nat → Int32) (av : List Value) (H : Heap) : Array Value → State → Prop := fun a U => a = av.toArray ∧ U.heap = H ∧ EV E U U.heap ∧ va_X b L xs U U.heap
theorem PX.blind {E : ET} {b L : Nat} {xs : Nat → Int32} {av : List Value} {H : Heap} : FrameBlind (PX E b L xs av H) := fun a U g mk q => ⟨q.1, q.2.1, EV.same (u := U) (U := U.calling g mk a) rfl q.2.2.1, va_X.moved (u := U) (U := U.calling g mk a) (Vm.Alike.refl _) q.2.2.2⟩
set_option maxRecDepth 100000 in
set_option maxHeartbeats 4000000 in
/-- cell -/
theorem c_cell (E : ET) (b L : Nat) (xs : Nat → Int32) (k : Nat) (n : Int32) (H : Heap) (hn : n = nI k) (hk : k < 2 ^ 31) (hL : L ≤ 260) : Met (eL E) yL_cell (wm yL_cell cL_cell 2 (some FieldType.int)) (rmk 1 0 0) (PX E b L xs [.ref b, .int n] H) (PQ (some (.int (clS xs L k)))) 0 0 (fun _ => False) := by
  subst hn
  refine Met.ofW (cc := cL_cell) (maxL := 2) (ret := some FieldType.int) (by decide +kernel) rfl ?_
  intro p e s m args below meth co s₁ B hml hv
  obtain ⟨rfl, rfl, hE, hX⟩ := hv
  have hl := lv_entry ([.ref b, .int (nI k)] : List Value) (n := 2) (Nat.le_of_ble_eq_true rfl)
  rw [lg_entry_eq]
  generalize ((lg_sl ([.ref b, .int (nI k)] : List Value) ++ List.replicate (2 - (lg_sl ([.ref b, .int (nI k)] : List Value)).length) Slot.unset).toArray) = ls at hl ⊢
  have hl : lv_has ls 2 [(0, .ref b), (1, .int (nI k))] := hl
  have hx := B.exec
  have hb : co.code = cL_cell := B.bytes
  have hS : va_S (fun q => s.heap.size ≤ q) s.heap s.heap [] := va_S.rf
  have hbl : b < s.heap.size := by
    obtain ⟨scr, h1, -⟩ := hX
    exact (Array.getElem?_eq_some_iff.mp h1).1
  have hbA : ¬ s.heap.size ≤ b := Nat.not_le.mpr hbl
  refine lv_iload_n hx hb dL_cell_0 rfl (lv_at hl 1 rfl) ?_
  refine lv_aload_n hx hb dL_cell_1 rfl (lv_at hl 0 rfl) ?_
  refine va_slen hx hb hX hbl hbA hS dL_cell_2 ?_
  show W _ _ _ _ _ _ _ _ _ _ _ _ _ _ _ (F0 _ _ _ [.int (nI L), .int (nI k)])
  refine lv_icmp_ge (tgt := 12) hx hb dL_cell_3 (by decide) (fun c => ?_) (fun c => ?_)
  · have hge : ¬ k < L := fun q => nI_ge q (by omega) c
    refine lv_sipush (v := 7919) hx hb dL_cell_12 (by decide) ?_
    refine lv_iload_n hx hb dL_cell_15 rfl (lv_at hl 1 rfl) ?_
    refine lv_iconst (v := 3) hx hb dL_cell_16 (by decide) ?_
    refine lv_iadd hx hb dL_cell_17 ?_
    refine lv_imul hx hb dL_cell_18 ?_
    refine lv_iload_n hx hb dL_cell_19 rfl (lv_at hl 1 rfl) ?_
    refine lv_bipush (v := 11) hx hb dL_cell_20 (by decide) ?_
    refine lv_iadd hx hb dL_cell_22 ?_
    refine lv_imul hx hb dL_cell_23 ?_
    exact pI hx hb B.returns B.notSynchronized rfl (by unfold clS; rw [if_neg hge]) dL_cell_24
  · have hlt : k < L := by
      rcases Nat.lt_or_ge k L with q | q
      · exact q
      · exact absurd (nI_le q hk) c
    refine lv_aload_n hx hb dL_cell_6 rfl (lv_at hl 0 rfl) ?_
    refine lv_iload_n hx hb dL_cell_7 rfl (lv_at hl 1 rfl) ?_
    refine va_sld hx hb hX hbl hbA hS (vp_in_nI hlt (by omega)) dL_cell_8 ?_
    rw [nI_clamp hk]
    refine lv_goto (tgt := 24) hx hb dL_cell_9 (by decide) ?_
    exact pI hx hb B.returns B.notSynchronized rfl (by unfold clS; rw [if_pos hlt]) dL_cell_24
section LCL
variable {p : Program} {e : Env} {s : State} {m : MethodId} {args : Array Value} {below : List Frame} {meth : Method} {c : Code} {H : Heap} {locs : List Loc} {cells slots : Nat} {Q : State → Prop}
variable {cc : ByteArray} {pc nL : Nat} {ls : Array Slot} {rest : List Value} {E : ET}
/-- the law's call of cell -/
theorem lcl {b L k : Nat} {xs : Nat → Int32} {n : Int32} (hx : p.tables.exec = Jvm.exec) (hb : c.code = cc) (hml : c.maxLocals = nL) (hts : ∀ w ∈ Tw, w.before args s = true) (hown : s.vm.findClass RL = some m.cls) (hE : EV E s H) (hX : va_X b L xs s H) (hn : n = nI k) (hk : k < 2 ^ 31) (hL : L ≤ 260) (hl : ls.size = nL) (hW : (rest.map fun v => v.category).sum ≤ 8) (hcs : cells ≤ 1173600) (hss : slots ≤ 5581029) (hdg : decode cc pc = .ok (.invokestatic 46, 3))
    (kk : W p (eL E) e room_1 s m args below meth c H locs cells slots Q (F0 m (pc + 3) ls (.int (clS xs L k) :: rest))) : W p (eL E) e room_1 s m args below meth c H locs cells slots Q (F0 m pc ls (.int n :: .ref b :: rest)) := by
  refine pk_go (g := F0 m pc ls (.int n :: .ref b :: rest)) (va_runS (As := [.ref b, .int n]) (rest := rest) ⟨hx, hb, hml, hown, hts⟩ (c_cell E b L xs k n H hn hk hL) (cwSR hts kwL_46 (by decide)) ⟨PX.blind, fun U hU hW => ⟨rfl, hU, by rw [hU]; exact hE.warm hW, by rw [hU]; exact va_X.moved hW.alike hX⟩⟩ rfl rfl hl rfl (lv_room hW) hdg ⟨hcs, hss⟩) kk
end LCL
