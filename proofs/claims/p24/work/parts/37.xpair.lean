/-- pressing -/
abbrev PS : Type := List TR × Int32 × Nat × BK
def mnR (tr ur : TR) : Int32 := if rstS tr.1 tr.2.1 < rstS ur.1 ur.2.1 then rstS tr.1 tr.2.1 else rstS ur.1 ur.2.1
def prD (h0 h1 : Dy) (day : Int32) (tr ur : TR) : Bool := (fitS tr.1 ur.1 && smeS tr.1 ur.1 tr.2.2 ur.2.2 (bfC h0 h1 tr.1) day (np tr)) && decide (0 < mnR tr ur)
def brT (tr : TR) (day v : Int32) : TR := (tr.1, tr.2.1 ++ [(day, v)], tr.2.2)
def pst (h0 h1 : Dy) (day : Int32) (i j : Nat) (P : PS) : PS := match P.1[i]?, P.1[j]? with
  | some tr, some ur => if prD h0 h1 day tr ur then ((P.1.set i (brT tr day (mnR tr ur))).set j (brT ur day (mnR tr ur)), P.2.1 + mnR tr ur, P.2.2.1 + 1, P.2.2.2 ++ [(nI i, day, mnR tr ur), (nI j, day, mnR tr ur)]) else P
  | _, _ => P
def pin (h0 h1 : Dy) (day : Int32) (i : Nat) : Nat → Nat → PS → PS
  | 0, _, P => P
  | r + 1, j, P => pin h0 h1 day i r (j + 1) (pst h0 h1 day i j P)
def pou (h0 h1 : Dy) (day : Int32) (n : Nat) : Nat → Nat → PS → PS
  | 0, _, P => P
  | r + 1, i, P => pou h0 h1 day n r (i + 1) (pin h0 h1 day i (n - (i + 1)) (i + 1) P)
def prs (h0 h1 : Dy) (day : Int32) (ts : List TR) : PS := pou h0 h1 day ts.length ts.length 0 (ts, 0, 0, [])
theorem pst_at {h0 h1 : Dy} {day : Int32} {i j : Nat} {P : PS} {tr ur : TR} (hi : P.1[i]? = some tr) (hj : P.1[j]? = some ur) : pst h0 h1 day i j P = if prD h0 h1 day tr ur then ((P.1.set i (brT tr day (mnR tr ur))).set j (brT ur day (mnR tr ur)), P.2.1 + mnR tr ur, P.2.2.1 + 1, P.2.2.2 ++ [(nI i, day, mnR tr ur), (nI j, day, mnR tr ur)]) else P := by
  unfold pst
  rw [hi, hj]
theorem pst_mono (h0 h1 : Dy) (day : Int32) (i j : Nat) (P : PS) : P.2.2.1 ≤ (pst h0 h1 day i j P).2.2.1 := by
  unfold pst
  split
  · split
    · exact Nat.le_succ _
    · exact Nat.le_refl _
  · exact Nat.le_refl _
theorem pin_mono (h0 h1 : Dy) (day : Int32) (i : Nat) : ∀ r j P, P.2.2.1 ≤ (pin h0 h1 day i r j P).2.2.1
  | 0, _, _ => Nat.le_refl _
  | r + 1, j, P => Nat.le_trans (pst_mono h0 h1 day i j P) (pin_mono h0 h1 day i r (j + 1) _)
theorem pou_mono (h0 h1 : Dy) (day : Int32) (n : Nat) : ∀ r i P, P.2.2.1 ≤ (pou h0 h1 day n r i P).2.2.1
  | 0, _, _ => Nat.le_refl _
  | r + 1, i, P => Nat.le_trans (pin_mono h0 h1 day i _ _ P) (pou_mono h0 h1 day n r (i + 1) _)
theorem TV.brT {tr : TR} (h : TV tr) {d : Nat} (hd : d ≤ 3000) (v : Int32) : TV (brT tr (nI d) v) := by
  obtain ⟨pa, lo, f, le, n, v1, v2, v3, v4, v5, v6, v7, v8, t0, t1, t2, t4, t5, t6, t8, t9, tb, th⟩ := h
  refine ⟨pa, lo, f, le, n, v1, v2, v3, v4, v5, v6, v7, v8, t0, t1, t2, t4, t5, t6, t8, t9, fun y hy => ?_, th⟩
  rcases List.mem_append.mp hy with c | c
  · exact tb y c
  · rw [List.mem_singleton.mp c]; exact ⟨d, hd, rfl⟩
theorem SV.set {h0 h1 fx : Dy} {ts : List TR} (hV : SV h0 h1 fx ts) {i : Nat} {tr : TR} (h : TV tr) : SV h0 h1 fx (ts.set i tr) := by
  obtain ⟨v1, v2, v3, v4, v5, v6, v7, v8, v9⟩ := hV
  exact ⟨v1, v2, v3, v4, v5, v6, v7, by rw [List.length_set]; exact v8, fun y hy => (List.mem_or_eq_of_mem_set hy).elim (v9 y) (fun e => e ▸ h)⟩
/-- what holds of the trades all along the pressing -/
def PV (h0 h1 fx : Dy) (n K : Nat) (P : PS) : Prop := P.1.length = n ∧ SV h0 h1 fx P.1 ∧ ∀ tr ∈ P.1, tr.2.1.length ≤ K + P.2.2.1
theorem PV.st {h0 h1 fx : Dy} {n K d i j : Nat} {P : PS} (h : PV h0 h1 fx n K P) (hd : d ≤ 3000) : PV h0 h1 fx n K (pst h0 h1 (nI d) i j P) := by
  obtain ⟨h1', h2, h3⟩ := h
  unfold pst
  split
  · rename_i tr ur hi hj
    split
    · refine ⟨by simp [h1'], (h2.set ((h2.tv hi).brT hd _)).set ((h2.tv hj).brT hd _), fun y hy => ?_⟩
      show y.2.1.length ≤ K + (P.2.2.1 + 1)
      have a1 := h3 tr (List.mem_of_getElem? hi)
      have a2 := h3 ur (List.mem_of_getElem? hj)
      have L : ∀ (z : TR) v, (brT z (nI d) v).2.1.length = z.2.1.length + 1 := fun z v => by unfold brT; rw [List.length_append]; rfl
      rcases List.mem_or_eq_of_mem_set hy with hy | e
      · rcases List.mem_or_eq_of_mem_set hy with hy | e
        · have := h3 y hy; omega
        · rw [e, L]; omega
      · rw [e, L]; omega
    · exact ⟨h1', h2, h3⟩
  · exact ⟨h1', h2, h3⟩
theorem XRx.lab {E : ET} {ow ow' : Nat → Nat × Nat} {x q fd bk : Nat} {wa : Nat → Nat} {h0 h1 fx : Dy} {ts : List TR} {H : Heap} (h : XRx E ow x q fd bk wa h0 h1 fx ts H) (hw : ∀ z, z < H.size → ow' z = ow z) : XRx E ow' x q fd bk wa h0 h1 fx ts H := by
  obtain ⟨hO, ⟨d0, d1, c1, c2, c3, c4, c5⟩, hD, hL, hT, hx, hg⟩ := h
  refine ⟨hO, ⟨d0, d1, c1, c2.same hw, c3.same hw, by rw [hw q (plt c1)]; exact c4, c5⟩, hD.same hw, hL.same hw, fun t tr ht => ?_, by rw [hw x (plt hO)]; exact hx, hg⟩
  obtain ⟨db, dh, bd, s1, s2, s3, s4, s5, s6, s7, s8⟩ := hT t tr ht
  exact ⟨db, dh, bd, s1, s2.same hw, s3.same hw, s4, by rw [hw _ (plt s1)]; exact s5, by rw [hw _ (plt s4)]; exact s6, s7, s8⟩
set_option maxRecDepth 100000 in
set_option maxHeartbeats 4000000 in
/-- pressPair -/
theorem c_ppair (E : ET) (ow : Nat → Nat × Nat) (x q fd bk : Nat) (wa : Nat → Nat) (h0 h1 fx : Dy) (ts : List TR) (i j : Nat) (tr ur : TR) (day : Int32) (K mc0 ms0 : Nat) (H : Heap) (hX : XRx E ow x q fd bk wa h0 h1 fx ts H) (hV : SV h0 h1 fx ts) (hi : ts[i]? = some tr) (hj : ts[j]? = some ur) (hij : i ≠ j) (hK : ∀ tr ∈ ts, tr.2.1.length ≤ K) (hK5 : K ≤ 5000) (hmc : prD h0 h1 day tr ur = true → 4 ≤ mc0 ∧ 2 * (2 + (2 * K + 10)) ≤ ms0) : Con E yX4_pressPair cX4_pressPair 4 (some FieldType.int) 9 mc0 ms0 [.ref (wa i), .ref (wa j), .int day] H (o1 (some (.int (if prD h0 h1 day tr ur then mnR tr ur else 0))) (fun H' => ∃ ow' : Nat → Nat × Nat, (∀ z, z < H.size → ow' z = ow z) ∧ (∀ z, H.size ≤ z → 10 ≤ (ow' z).1) ∧ XRx E ow' x q fd bk wa h0 h1 fx (if prD h0 h1 day tr ur then (ts.set i (brT tr day (mnR tr ur))).set j (brT ur day (mnR tr ur)) else ts) H' ∧ FR (fun z => 10 ≤ (ow z).1) H H')) := by
  refine Con.of (C := RX4) rfl (by decide +kernel) (Nat.le_of_ble_eq_true rfl) ?_
  intro p e s m below meth co ls hx hb hr hlk hml hown hts hin hE hH hS hl
  have hl : lv_has ls 4 [(0, .ref (wa i)), (1, .ref (wa j)), (2, .int day)] := hl
  have hB : eB E ≤ s.heap.size := by rw [hH]; exact hE.2.1
  have hBF := hE.2.2.1
  have k1 := hK tr (List.mem_of_getElem? hi)
  have k2 := hK ur (List.mem_of_getElem? hj)
  have q1 : tr.2.2.length ≤ 10 := by obtain ⟨pa, lo, f, le, n, -, -, -, -, -, -, -, -, -, -, -, -, -, -, -, -, -, hh⟩ := hV.tv hi; exact hh
  have q2 : ur.2.2.length ≤ 10 := by obtain ⟨pa, lo, f, le, n, -, -, -, -, -, -, -, -, -, -, -, -, -, -, -, -, -, hh⟩ := hV.tv hj; exact hh
  obtain ⟨db, dh, bd, hW0, hdb, hdh, hbd, how, hob, gw, gb⟩ := hX.2.2.2.2.1 i tr hi
  obtain ⟨dc, di, be, hU0, hdc, hdi, hbe, hou, hoe, gu, ge⟩ := hX.2.2.2.2.1 j ur hj
  have hW : SRx E (wa i) tr.1 db dh bd (bfC h0 h1 tr.1) tr.2.1 tr.2.2 H := ⟨hW0, hdb.DR (by omega), hdh.DR (by omega), hbd⟩
  have hU : SRx E (wa j) ur.1 dc di be (bfC h0 h1 ur.1) ur.2.1 ur.2.2 H := ⟨hU0, hdc.DR (by omega), hdi.DR (by omega), hbe⟩
  obtain ⟨n6, n1, n10⟩ := (hV.tv hi).n
  obtain ⟨mi, hmi⟩ : ∃ z, z = mnR tr ur := ⟨_, rfl⟩
  refine lv_aload_n hx hb dX4_pressPair_0 rfl (lv_at hl 0 rfl) ?_
  refine lv_aload_n hx hb dX4_pressPair_1 rfl (lv_at hl 1 rfl) ?_
  refine pV hx hb hml hts hown hE kwX4_195 (c_fits E (wa i) (wa j) tr.1 ur.1 db dh bd dc di be H hW0 hU0) hW0 rfl (Nat.le_of_ble_eq_true rfl) rfl hl.1 rfl (Nat.le_of_ble_eq_true rfl) (by omega) (by omega) dX4_pressPair_2 ?_
  cases c1 : fitS tr.1 ur.1 with
  | false =>
    refine lv_if_eq (tgt := 17) hx hb dX4_pressPair_5 (by decide) (fun c2 => ?_) (fun c2 => ?_)
    rotate_left
    · exact absurd (by decide) c2
    have hpr : prD h0 h1 day tr ur = false := by unfold prD; rw [c1]; simp
    refine lv_iconst (v := 0) hx hb dX4_pressPair_17 (by decide) ?_
    exact cI hx hb hr hlk hB hS (by omega) (by omega) (⟨by rw [hpr]; rfl, owx ow H (10, 0), fun z h9 => owx_old h9, fun z h9 => by rw [owx_new h9]; decide, by rw [hpr]; exact hX.lab (fun z h9 => owx_old h9), FR.rf⟩) dX4_pressPair_18
  | true =>
    refine lv_if_eq (tgt := 17) hx hb dX4_pressPair_5 (by decide) (fun c2 => ?_) (fun c2 => ?_)
    · exact absurd c2 (by decide)
    refine lv_aload_n hx hb dX4_pressPair_8 rfl (lv_at hl 0 rfl) ?_
    refine lv_iload_n hx hb dX4_pressPair_9 rfl (lv_at hl 2 rfl) ?_
    refine lv_aload_n hx hb dX4_pressPair_10 rfl (lv_at hl 1 rfl) ?_
    refine pV hx hb hml hts hown hE kwX4_199 (c_same E (wa i) tr.1 db dh bd (bfC h0 h1 tr.1) tr.2.1 tr.2.2 (wa j) (np tr) ur.1 dc di be (bfC h0 h1 ur.1) ur.2.1 ur.2.2 day H n6 n10 hW hU) hW0 rfl (Nat.le_of_ble_eq_true rfl) rfl hl.1 rfl (Nat.le_of_ble_eq_true rfl) (by omega) (by omega) dX4_pressPair_11 ?_
    cases c3 : smeS tr.1 ur.1 tr.2.2 ur.2.2 (bfC h0 h1 tr.1) day (np tr) with
    | false =>
      refine lv_if_ne (tgt := 19) hx hb dX4_pressPair_14 (by decide) (fun c4 => ?_) (fun c4 => ?_)
      · exact absurd (by decide) c4
      have hpr : prD h0 h1 day tr ur = false := by unfold prD; rw [c1, c3]; simp
      refine lv_iconst (v := 0) hx hb dX4_pressPair_17 (by decide) ?_
      exact cI hx hb hr hlk hB hS (by omega) (by omega) (⟨by rw [hpr]; rfl, owx ow H (10, 0), fun z h9 => owx_old h9, fun z h9 => by rw [owx_new h9]; decide, by rw [hpr]; exact hX.lab (fun z h9 => owx_old h9), FR.rf⟩) dX4_pressPair_18
    | true =>
      refine lv_if_ne (tgt := 19) hx hb dX4_pressPair_14 (by decide) (fun c4 => ?_) (fun c4 => ?_)
      rotate_left
      · exact absurd c4 (by decide)
      refine lv_aload_n hx hb dX4_pressPair_19 rfl (lv_at hl 0 rfl) ?_
      refine pV hx hb hml hts hown hE kwX4_121 (c_rest E (wa i) tr.1 db dh bd (bfC h0 h1 tr.1) tr.2.1 tr.2.2 H hW) hW0 rfl (Nat.le_of_ble_eq_true rfl) rfl hl.1 rfl (Nat.le_of_ble_eq_true rfl) (by omega) (by omega) dX4_pressPair_20 ?_
      refine lv_aload_n hx hb dX4_pressPair_23 rfl (lv_at hl 1 rfl) ?_
      refine pV hx hb hml hts hown hE kwX4_121 (c_rest E (wa j) ur.1 dc di be (bfC h0 h1 ur.1) ur.2.1 ur.2.2 H hU) hU0 rfl (Nat.le_of_ble_eq_true rfl) rfl hl.1 rfl (Nat.le_of_ble_eq_true rfl) (by omega) (by omega) dX4_pressPair_24 ?_
      refine va_mmin hx hb (by rw [hml]; exact hl.1.symm) hown (hts _ qw2_233) (hts _ qw2_61) (hts _ qw1_14) (hts _ qw2_62) (Nat.le_of_ble_eq_true rfl) (by show _ ≤ 360; simp [Value.category]) (by omega) (by omega) dX4_pressPair_27 ?_
      try rw [show (if rstS ur.1 ur.2.1 < rstS tr.1 tr.2.1 then rstS ur.1 ur.2.1 else rstS tr.1 tr.2.1) = (if rstS tr.1 tr.2.1 < rstS ur.1 ur.2.1 then rstS tr.1 tr.2.1 else rstS ur.1 ur.2.1) from min_sw]
      rw [show (if rstS tr.1 tr.2.1 < rstS ur.1 ur.2.1 then rstS tr.1 tr.2.1 else rstS ur.1 ur.2.1) = mi from hmi.symm]
      refine lv_istore_n (lv' := [(3, .int mi), (0, .ref (wa i)), (1, .ref (wa j)), (2, .int day)]) hx hb dX4_pressPair_30 rfl hl (by decide) rfl (fun ls hl => ?_)
      refine lv_iload_n hx hb dX4_pressPair_31 rfl (lv_at hl 0 rfl) ?_
      refine lv_if_gt (tgt := 37) hx hb dX4_pressPair_32 (by decide) (fun c5 => ?_) (fun c5 => ?_)
      · have hpr : prD h0 h1 day tr ur = true := by unfold prD; rw [c1, c3, ← hmi]; simpa using c5
        obtain ⟨hm1, hm2⟩ := hmc hpr
        obtain ⟨a9, ad9, hD8, -⟩ := hdb.DRx (by omega)
        have hD0 := hD8.1
        refine lv_aload_n hx hb dX4_pressPair_37 rfl (lv_at hl 1 rfl) ?_
        refine gf hx hb hts hown hE lkX4_106 hW0 rfl dX4_pressPair_38 ?_
        refine lv_iload_n hx hb dX4_pressPair_41 rfl (lv_at hl 3 rfl) ?_
        refine lv_iload_n hx hb dX4_pressPair_42 rfl (lv_at hl 0 rfl) ?_
        refine gVU hx hb hml hts hown hB hE hS kwX4_58 (c_dadd E ow (10 + 3 * i + 1) db tr.2.1 day mi H hdb (by omega)) hD0 rfl (Nat.le_of_ble_eq_true rfl) rfl hl.1 rfl (Nat.le_of_ble_eq_true rfl) (by omega) (by omega) dX4_pressPair_43 (fun H1 L1 hG hz1 hE hS => ?_)
        obtain ⟨ow1, e1, e2, hS1, hF1⟩ := SRo.brk hW0 hdh hbd how hob gw gb (hS.low hH hB) hBF hG
        have low1 := hS.low hH hB
        have hN1 : ∀ z, z < H.size → ¬ (10 + 3 * i ≤ (ow z).1 ∧ (ow z).1 ≤ 10 + 3 * i + 2) → H1[z]? = H[z]? := fun z h9 h8 => hF1.2 z h9 (fun e => h8 (by have e : (ow z).1 = _ := e; omega))
        have hX1 := hX.swp hi hS1 hN1 low1 hBF e1
        have hj1 : (ts.set i (tr.1, tr.2.1 ++ [(day, mi)], tr.2.2))[j]? = some ur := by rw [List.getElem?_set_ne hij]; exact hj
        obtain ⟨dc, di, be, hU0, hdc, hdi, hbe, hou, hoe, gu, ge⟩ := hX1.2.2.2.2.1 j ur hj1
        obtain ⟨a8, ad8, hD7, -⟩ := hdc.DRx (by omega)
        have hD6 := hD7.1
        refine lv_aload_n hx hb dX4_pressPair_46 rfl (lv_at hl 2 rfl) ?_
        refine gf hx hb hts hown hE lkX4_106 hU0 rfl dX4_pressPair_47 ?_
        refine lv_iload_n hx hb dX4_pressPair_50 rfl (lv_at hl 3 rfl) ?_
        refine lv_iload_n hx hb dX4_pressPair_51 rfl (lv_at hl 0 rfl) ?_
        refine gVU hx hb hml hts hown hB hE hS kwX4_58 (c_dadd E ow1 (10 + 3 * j + 1) dc ur.2.1 day mi H1 hdc (by omega)) hD6 rfl (Nat.le_of_ble_eq_true rfl) rfl hl.1 rfl (Nat.le_of_ble_eq_true rfl) (by omega) (by omega) dX4_pressPair_52 (fun H2 L2 hG hz2 hE hS => ?_)
        have low2 : ∀ z, z < eB E → H2[z]? = H1[z]? := fun z hz => (hS.low hH hB z hz).trans (low1 z hz).symm
        obtain ⟨ow2, e3, e4, hS2, hF2⟩ := SRo.brk hU0 hdi hbe hou hoe gu ge low2 hBF hG
        have hN2 : ∀ z, z < H1.size → ¬ (10 + 3 * j ≤ (ow1 z).1 ∧ (ow1 z).1 ≤ 10 + 3 * j + 2) → H2[z]? = H1[z]? := fun z h9 h8 => hF2.2 z h9 (fun e => h8 (by have e : (ow1 z).1 = _ := e; omega))
        have hX3 := hX1.swp hj1 hS2 hN2 low2 hBF e3
        have hzz := hF1.1
        have hzy := hF2.1
        refine lv_iload_n hx hb dX4_pressPair_55 rfl (lv_at hl 0 rfl) ?_
        rw [hmi] at hX3
        refine cI hx hb hr hlk hB hS (by omega) (by omega) (⟨by rw [hpr, hmi]; rfl, ow2, fun z h9 => by rw [e3 z (by omega)]; exact e1 z h9, fun z h9 => ?_, by rw [hpr]; exact hX3, ⟨Nat.le_trans hzz hzy, fun z h9 h8 => ?_⟩⟩) dX4_pressPair_56
        · rcases Nat.lt_or_ge z H1.size with c9 | c9
          · rw [e3 z c9, e2 z h9]; omega
          · rw [e4 z c9]; omega
        · have h8 : ¬ 10 ≤ (ow z).1 := h8
          exact (hN2 z (by omega) (by rw [e1 z h9]; omega)).trans (hN1 z h9 (by omega))
      · have c6 : decide (0 < mnR tr ur) = false := by rw [← hmi]; simpa using c5
        have hpr : prD h0 h1 day tr ur = false := by unfold prD; rw [c6]; simp
        refine lv_iconst (v := 0) hx hb dX4_pressPair_35 (by decide) ?_
        exact cI hx hb hr hlk hB hS (by omega) (by omega) (⟨by rw [hpr]; rfl, owx ow H (10, 0), fun z h9 => owx_old h9, fun z h9 => by rw [owx_new h9]; decide, by rw [hpr]; exact hX.lab (fun z h9 => owx_old h9), FR.rf⟩) dX4_pressPair_36
