def np (tr : TR) : Nat := (tr.1 6).toNatClampNeg
def trd (ts : List TR) (t : Int32) : Option TR := if t < 0 then none else ts[t.toNatClampNeg]?
def prd (tr : TR) (k : Int32) : Option Nat := if k < 0 then none else if k.toNatClampNeg < np tr then some k.toNatClampNeg else none
theorem trd_nI {ts : List TR} {i : Nat} (h : i < 2 ^ 31) : trd ts (nI i) = ts[i]? := by
  unfold trd
  rw [if_neg (nI_pos h), nI_clamp h]
theorem trd_no {ts : List TR} {t : Int32} (h : ¬ ∃ i, i < ts.length ∧ t = nI i) : trd ts t = none := by
  unfold trd
  by_cases c : t < 0
  · rw [if_pos c]
  · rw [if_neg c]
    obtain ⟨j, hj, e⟩ := nI_of c
    subst e
    rw [nI_clamp hj]
    exact List.getElem?_eq_none (Nat.le_of_not_lt (fun q => h ⟨j, q, rfl⟩))
theorem prd_nI {tr : TR} {j : Nat} (h : j < 2 ^ 31) (hn : j < np tr) : prd tr (nI j) = some j := by
  unfold prd
  rw [if_neg (nI_pos h), nI_clamp h, if_pos hn]
theorem prd_neg {tr : TR} {k : Int32} (h : k < 0) : prd tr k = none := if_pos h
theorem prd_big {tr : TR} {j : Nat} (h : j < 2 ^ 31) (hn : np tr ≤ j) : prd tr (nI j) = none := by
  unfold prd
  rw [if_neg (nI_pos h), nI_clamp h, if_neg (Nat.not_lt.mpr hn)]
theorem SRo.SRx {E : ET} {ow : Nat → Nat × Nat} {L w : Nat} {tr : TR} {bf : Nat → Int32} {H : Heap} (h : SRo E ow L w tr bf H) (hb : tr.2.1.length ≤ 5000) (hh : tr.2.2.length ≤ 5000) : ∃ db dh bd, SRx E w tr.1 db dh bd bf tr.2.1 tr.2.2 H := by
  obtain ⟨db, dh, bd, h1, h2, h3, h4, -⟩ := h
  exact ⟨db, dh, bd, h1, h2.DR (by omega), h3.DR (by omega), h4⟩
/-- the breaks of each trade are few -/
def BL (ts : List TR) : Prop := ∀ tr ∈ ts, tr.2.1.length ≤ 5000
/-- what the reading methods of the office stand on -/
theorem XR.rd {E : ET} {ow : Nat → Nat × Nat} {x : Nat} {h0 h1 fx : Dy} {ts : List TR} {H : Heap} (h : XR E ow x h0 h1 fx ts H) (hV : SV h0 h1 fx ts) (hK : BL ts) : ∃ (q fd bk : Nat) (wa : Nat → Nat), OB E 5 [.ref q, .ref fd, .ref bk] x H ∧ CR E q h0 h1 H ∧ DR E fd fx H ∧ LR E bk ts.length wa H ∧ (∀ t tr, ts[t]? = some tr → ∃ db dh bd, SRx E (wa t) tr.1 db dh bd (bfC h0 h1 tr.1) tr.2.1 tr.2.2 H) := by
  obtain ⟨q, fd, bk, wa, h1, h2, h3, h4, h5, h6, h7⟩ := h
  obtain ⟨v1, v2, v3, v4, v5, v6, v7, v8, v9⟩ := hV
  refine ⟨q, fd, bk, wa, h1, h2.CR v1 v2, h3.DR (by omega), h4.LR (by omega), fun t tr ht => (h5 t tr ht).SRx (hK tr (List.mem_of_getElem? ht)) ?_⟩
  obtain ⟨pa, lo, f, le, n, -, -, -, -, -, -, -, -, -, -, -, -, -, -, -, -, -, hh⟩ := v9 tr (List.mem_of_getElem? ht)
  omega
theorem TV.n {tr : TR} (h : TV tr) : tr.1 6 = nI (np tr) ∧ 1 ≤ np tr ∧ np tr ≤ 10 := by
  obtain ⟨pa, lo, f, le, n, v1, v2, v3, v4, v5, v6, v7, v8, t0, t1, t2, t4, t5, t6, -⟩ := h
  have e : np tr = n := by unfold np; rw [t6, nI_clamp (by omega)]
  rw [e]
  exact ⟨t6, v7, v8⟩
theorem TV.w {tr : TR} (h : TV tr) : tr.1 9 = 0 ∨ tr.1 9 = 1 ∨ tr.1 9 = 2 := by
  obtain ⟨pa, lo, f, le, n, v1, v2, v3, v4, v5, v6, v7, v8, t0, t1, t2, t4, t5, t6, t8, t9, -⟩ := h
  exact t9
theorem inB_nI {v hi : Int32} {n : Nat} (h : inB v 0 hi = true) (hn : hi = nI n := by decide) (hb : n < 2 ^ 31 := by decide) : ∃ j, j ≤ n ∧ v = nI j := by
  unfold inB at h
  rw [Bool.and_eq_true, decide_eq_true_eq, decide_eq_true_eq] at h
  obtain ⟨j, hj, e⟩ := nI_of (Int32.not_lt.mpr h.1)
  refine ⟨j, ?_, e⟩
  rw [e, hn] at h
  exact (nI_leI hj hb).mp h.2
set_option maxRecDepth 100000 in
set_option maxHeartbeats 4000000 in
/-- swapWithPeriod -/
theorem c_swp (E : ET) (ow : Nat → Nat × Nat) (x : Nat) (h0 h1 fx : Dy) (ts : List TR) (q fd bk : Nat) (wa : Nat → Nat) (t k : Int32) (H : Heap) (hO : OB E 5 [.ref q, .ref fd, .ref bk] x H) (hL : LR E bk ts.length wa H) (hT : ∀ t tr, ts[t]? = some tr → ∃ db dh bd, SRx E (wa t) tr.1 db dh bd (bfC h0 h1 tr.1) tr.2.1 tr.2.2 H) (hV : SV h0 h1 fx ts) : XCon E yX4_swapWithPeriod cX4_swapWithPeriod 4 (some (FieldType.object "Resetline$Swap")) 7 2 12 [.ref x, .int t, .int k] H (fun r H' => ∃ i tr j, (ts[i]? = some tr ∧ trd ts t = some tr ∧ prd tr k = some j ∧ k = nI j ∧ j < np tr) ∧ r = some (.ref (wa i)) ∧ H' = H) (fun X => X = xI ∧ (trd ts t).bind (fun tr => prd tr k) = none) := by
  refine XCon.of (C := RX4) rfl (by decide +kernel) (Nat.le_of_ble_eq_true rfl) ?_
  intro p e s m below meth co ls hx hb hr hlk hml hown hts hxt hE hH hS hl
  have hl : lv_has ls 4 [(0, .ref x), (1, .int t), (2, .int k)] := hl
  have hB : eB E ≤ s.heap.size := by rw [hH]; exact hE.2.1
  have hE0 : EV E s s.heap := by rw [hH]; exact hE
  have htn := hV.2.2.2.2.2.2.2.1
  refine lv_aload_n hx hb dX4_swapWithPeriod_0 rfl (lv_at hl 0 rfl) ?_
  refine lv_iload_n hx hb dX4_swapWithPeriod_1 rfl (lv_at hl 1 rfl) ?_
  refine xVc hx hb hml hlk hxt hts hown hB hE hH hS kwX4_102 (c_swapAt E ow x q fd bk wa ts t H hO hL htn (fun i hi => by obtain ⟨tr, ht⟩ := getq hi; obtain ⟨db, dh, bd, h9⟩ := hT i tr ht; exact ⟨_, h9.1⟩)) (fun X h => ⟨h.1, by rw [trd_no h.2]; rfl⟩) hO rfl (Nat.le_of_ble_eq_true rfl) rfl hl.1 rfl (Nat.le_of_ble_eq_true rfl) (by omega) (by omega) dX4_swapWithPeriod_2 (fun v1 H1 L1 ho1 hz1 hE hS => ?_)
  obtain ⟨i, hi, et, hv1, hh1⟩ := ho1
  subst hv1
  have hh1 := hh1.symm
  subst hh1
  dsimp only [Option.toList, List.nil_append, List.cons_append]
  obtain ⟨tr, ht⟩ := getq hi
  obtain ⟨db, dh, bd, hW⟩ := hT i tr ht
  have hW0 := hW.1
  obtain ⟨n6, n1, n10⟩ := (hV.2.2.2.2.2.2.2.2 tr (List.mem_of_getElem? ht)).n
  have etr : trd ts t = some tr := by rw [et, trd_nI (by omega)]; exact ht
  refine lv_astore_n (lv' := [(3, .ref (wa i)), (0, .ref x), (1, .int t), (2, .int k)]) hx hb dX4_swapWithPeriod_5 rfl hl (by decide) rfl (fun ls hl => ?_)
  refine lv_iload_n hx hb dX4_swapWithPeriod_6 rfl (lv_at hl 3 rfl) ?_
  refine lv_if_lt (tgt := 18) hx hb dX4_swapWithPeriod_7 (by decide) (fun c1 => ?_) (fun c1 => ?_)
  · exact tS (is := 193) (text := "no such period") hx hb hml hlk hxt hts hown hE0 hH hS txI (by decide) (⟨rfl, by rw [etr]; exact prd_neg c1⟩) hl.1 (Nat.le_of_ble_eq_true rfl) (Nat.le_of_ble_eq_true rfl) (by omega) (by omega) dX4_swapWithPeriod_18 dX4_swapWithPeriod_21 dX4_swapWithPeriod_22 dX4_swapWithPeriod_24 dX4_swapWithPeriod_27
  · refine lv_iload_n hx hb dX4_swapWithPeriod_10 rfl (lv_at hl 3 rfl) ?_
    refine lv_aload_n hx hb dX4_swapWithPeriod_11 rfl (lv_at hl 0 rfl) ?_
    refine gf hx hb hts hown hE lkX4_190 hW0 rfl dX4_swapWithPeriod_12 ?_
    rw [n6]
    obtain ⟨j, hj, ej⟩ := nI_of c1
    subst ej
    refine lv_icmp_lt (tgt := 28) hx hb dX4_swapWithPeriod_15 (by decide) (fun c2 => ?_) (fun c2 => ?_)
    · have hlt : j < np tr := by
        rcases Nat.lt_or_ge j (np tr) with q9 | q9
        · exact q9
        · exact absurd c2 (nI_nlt q9 hj)
      refine lv_aload_n hx hb dX4_swapWithPeriod_28 rfl (lv_at hl 0 rfl) ?_
      exact vx_ret (cR hx hb hr (Or.inl ⟨_, rfl⟩) (Or.inr ⟨_, rfl⟩) hlk hB hS (by omega) (by omega) (⟨i, tr, j, ⟨ht, etr, prd_nI hj hlt, rfl, hlt⟩, rfl, rfl⟩) dX4_swapWithPeriod_29)
    · have hge : np tr ≤ j := by
        rcases Nat.lt_or_ge j (np tr) with q9 | q9
        · exact absurd (nI_lt q9 (by omega)) c2
        · exact q9
      exact tS (is := 193) (text := "no such period") hx hb hml hlk hxt hts hown hE0 hH hS txI (by decide) (⟨rfl, by rw [etr]; exact prd_big hj hge⟩) hl.1 (Nat.le_of_ble_eq_true rfl) (Nat.le_of_ble_eq_true rfl) (by omega) (by omega) dX4_swapWithPeriod_18 dX4_swapWithPeriod_21 dX4_swapWithPeriod_22 dX4_swapWithPeriod_24 dX4_swapWithPeriod_27

set_option maxRecDepth 100000 in
set_option maxHeartbeats 4000000 in
/-- start -/
theorem c_xstart (E : ET) (ow : Nat → Nat × Nat) (x : Nat) (h0 h1 fx : Dy) (ts : List TR) (t k : Int32) (H : Heap) (hX : XR E ow x h0 h1 fx ts H) (hV : SV h0 h1 fx ts) (hK : BL ts)  : XCon E yX4_start cX4_start 3 (some FieldType.int) 10 2 12 [.ref x, .int t, .int k] H (fun r H' => (∃ tr j, (trd ts t).bind (fun tr => (prd tr k).map (fun j => (tr, j))) = some (tr, j) ∧ r = some (.int (bfC h0 h1 tr.1 j))) ∧ H' = H) (fun X => X = xI ∧ (trd ts t).bind (fun tr => prd tr k) = none) := by
  refine XCon.of (C := RX4) rfl (by decide +kernel) (Nat.le_of_ble_eq_true rfl) ?_
  intro p e s m below meth co ls hx hb hr hlk hml hown hts hxt hE hH hS hl
  have hl : lv_has ls 3 [(0, .ref x), (1, .int t), (2, .int k)] := hl
  have hB : eB E ≤ s.heap.size := by rw [hH]; exact hE.2.1
  have hE0 : EV E s s.heap := by rw [hH]; exact hE
  obtain ⟨q, fd, bk, wa, hO, hC, hD, hL, hT⟩ := hX.rd hV hK
  refine lv_aload_n hx hb dX4_start_0 rfl (lv_at hl 0 rfl) ?_
  refine lv_iload_n hx hb dX4_start_1 rfl (lv_at hl 1 rfl) ?_
  refine lv_iload_n hx hb dX4_start_2 rfl (lv_at hl 2 rfl) ?_
  refine xVc hx hb hml hlk hxt hts hown hB hE hH hS kwX4_142 (c_swp E ow x h0 h1 fx ts q fd bk wa t k H hO hL hT hV) (fun X h => h) hO rfl (Nat.le_of_ble_eq_true rfl) rfl hl.1 rfl (Nat.le_of_ble_eq_true rfl) (by omega) (by omega) dX4_start_3 (fun v1 H1 L1 ho1 hz1 hE hS => ?_)
  obtain ⟨i, tr, j, ⟨ht, etr, epr, ek, hj⟩, hv1, hh1⟩ := ho1
  subst hv1
  have hh1 := hh1.symm
  subst hh1
  dsimp only [Option.toList, List.nil_append, List.cons_append]
  subst ek
  obtain ⟨db, dh, bd, hW⟩ := hT i tr ht
  have hW0 := hW.1
  obtain ⟨n6, n1, n10⟩ := (hV.2.2.2.2.2.2.2.2 tr (List.mem_of_getElem? ht)).n
  have h9 := (hV.2.2.2.2.2.2.2.2 tr (List.mem_of_getElem? ht)).w
  refine lv_iload_n hx hb dX4_start_6 rfl (lv_at hl 2 rfl) ?_
  refine pV hx hb hml hts hown hE kwX4_146 (c_start E (wa i) tr.1 db dh bd (bfC h0 h1 tr.1) tr.2.1 tr.2.2 j H (by omega) hW) hW0 rfl (Nat.le_of_ble_eq_true rfl) rfl hl.1 rfl (Nat.le_of_ble_eq_true rfl) (by omega) (by omega) dX4_start_7 ?_
  exact vx_ret (cI hx hb hr hlk hB hS (by omega) (by omega) (⟨⟨tr, j, by rw [etr]; simp [epr], rfl⟩, rfl⟩) dX4_start_10)

set_option maxRecDepth 100000 in
set_option maxHeartbeats 4000000 in
/-- end -/
theorem c_xend (E : ET) (ow : Nat → Nat × Nat) (x : Nat) (h0 h1 fx : Dy) (ts : List TR) (t k : Int32) (H : Heap) (hX : XR E ow x h0 h1 fx ts H) (hV : SV h0 h1 fx ts) (hK : BL ts)  : XCon E yX4_end cX4_end 3 (some FieldType.int) 10 2 12 [.ref x, .int t, .int k] H (fun r H' => (∃ tr j, (trd ts t).bind (fun tr => (prd tr k).map (fun j => (tr, j))) = some (tr, j) ∧ r = some (.int (bfC h0 h1 tr.1 (j + 1)))) ∧ H' = H) (fun X => X = xI ∧ (trd ts t).bind (fun tr => prd tr k) = none) := by
  refine XCon.of (C := RX4) rfl (by decide +kernel) (Nat.le_of_ble_eq_true rfl) ?_
  intro p e s m below meth co ls hx hb hr hlk hml hown hts hxt hE hH hS hl
  have hl : lv_has ls 3 [(0, .ref x), (1, .int t), (2, .int k)] := hl
  have hB : eB E ≤ s.heap.size := by rw [hH]; exact hE.2.1
  have hE0 : EV E s s.heap := by rw [hH]; exact hE
  obtain ⟨q, fd, bk, wa, hO, hC, hD, hL, hT⟩ := hX.rd hV hK
  refine lv_aload_n hx hb dX4_end_0 rfl (lv_at hl 0 rfl) ?_
  refine lv_iload_n hx hb dX4_end_1 rfl (lv_at hl 1 rfl) ?_
  refine lv_iload_n hx hb dX4_end_2 rfl (lv_at hl 2 rfl) ?_
  refine xVc hx hb hml hlk hxt hts hown hB hE hH hS kwX4_142 (c_swp E ow x h0 h1 fx ts q fd bk wa t k H hO hL hT hV) (fun X h => h) hO rfl (Nat.le_of_ble_eq_true rfl) rfl hl.1 rfl (Nat.le_of_ble_eq_true rfl) (by omega) (by omega) dX4_end_3 (fun v1 H1 L1 ho1 hz1 hE hS => ?_)
  obtain ⟨i, tr, j, ⟨ht, etr, epr, ek, hj⟩, hv1, hh1⟩ := ho1
  subst hv1
  have hh1 := hh1.symm
  subst hh1
  dsimp only [Option.toList, List.nil_append, List.cons_append]
  subst ek
  obtain ⟨db, dh, bd, hW⟩ := hT i tr ht
  have hW0 := hW.1
  obtain ⟨n6, n1, n10⟩ := (hV.2.2.2.2.2.2.2.2 tr (List.mem_of_getElem? ht)).n
  have h9 := (hV.2.2.2.2.2.2.2.2 tr (List.mem_of_getElem? ht)).w
  refine lv_iload_n hx hb dX4_end_6 rfl (lv_at hl 2 rfl) ?_
  refine pV hx hb hml hts hown hE kwX4_149 (c_end E (wa i) tr.1 db dh bd (bfC h0 h1 tr.1) tr.2.1 tr.2.2 j H (by omega) hW) hW0 rfl (Nat.le_of_ble_eq_true rfl) rfl hl.1 rfl (Nat.le_of_ble_eq_true rfl) (by omega) (by omega) dX4_end_7 ?_
  exact vx_ret (cI hx hb hr hlk hB hS (by omega) (by omega) (⟨⟨tr, j, by rw [etr]; simp [epr], rfl⟩, rfl⟩) dX4_end_10)

set_option maxRecDepth 100000 in
set_option maxHeartbeats 4000000 in
/-- lots -/
theorem c_xlots (E : ET) (ow : Nat → Nat × Nat) (x : Nat) (h0 h1 fx : Dy) (ts : List TR) (t k : Int32) (H : Heap) (hX : XR E ow x h0 h1 fx ts H) (hV : SV h0 h1 fx ts) (hK : BL ts)  : XCon E yX4_lots cX4_lots 3 (some FieldType.int) 10 2 12 [.ref x, .int t, .int k] H (fun r H' => (∃ tr j, (trd ts t).bind (fun tr => (prd tr k).map (fun j => (tr, j))) = some (tr, j) ∧ r = some (.int (lotS tr.1 tr.2.1 (bfC h0 h1 tr.1) j))) ∧ H' = H) (fun X => X = xI ∧ (trd ts t).bind (fun tr => prd tr k) = none) := by
  refine XCon.of (C := RX4) rfl (by decide +kernel) (Nat.le_of_ble_eq_true rfl) ?_
  intro p e s m below meth co ls hx hb hr hlk hml hown hts hxt hE hH hS hl
  have hl : lv_has ls 3 [(0, .ref x), (1, .int t), (2, .int k)] := hl
  have hB : eB E ≤ s.heap.size := by rw [hH]; exact hE.2.1
  have hE0 : EV E s s.heap := by rw [hH]; exact hE
  obtain ⟨q, fd, bk, wa, hO, hC, hD, hL, hT⟩ := hX.rd hV hK
  refine lv_aload_n hx hb dX4_lots_0 rfl (lv_at hl 0 rfl) ?_
  refine lv_iload_n hx hb dX4_lots_1 rfl (lv_at hl 1 rfl) ?_
  refine lv_iload_n hx hb dX4_lots_2 rfl (lv_at hl 2 rfl) ?_
  refine xVc hx hb hml hlk hxt hts hown hB hE hH hS kwX4_142 (c_swp E ow x h0 h1 fx ts q fd bk wa t k H hO hL hT hV) (fun X h => h) hO rfl (Nat.le_of_ble_eq_true rfl) rfl hl.1 rfl (Nat.le_of_ble_eq_true rfl) (by omega) (by omega) dX4_lots_3 (fun v1 H1 L1 ho1 hz1 hE hS => ?_)
  obtain ⟨i, tr, j, ⟨ht, etr, epr, ek, hj⟩, hv1, hh1⟩ := ho1
  subst hv1
  have hh1 := hh1.symm
  subst hh1
  dsimp only [Option.toList, List.nil_append, List.cons_append]
  subst ek
  obtain ⟨db, dh, bd, hW⟩ := hT i tr ht
  have hW0 := hW.1
  obtain ⟨n6, n1, n10⟩ := (hV.2.2.2.2.2.2.2.2 tr (List.mem_of_getElem? ht)).n
  have h9 := (hV.2.2.2.2.2.2.2.2 tr (List.mem_of_getElem? ht)).w
  refine lv_iload_n hx hb dX4_lots_6 rfl (lv_at hl 2 rfl) ?_
  refine pV hx hb hml hts hown hE kwX4_152 (c_lots E (wa i) tr.1 db dh bd (bfC h0 h1 tr.1) tr.2.1 tr.2.2 j H (by omega) hW) hW0 rfl (Nat.le_of_ble_eq_true rfl) rfl hl.1 rfl (Nat.le_of_ble_eq_true rfl) (by omega) (by omega) dX4_lots_7 ?_
  exact vx_ret (cI hx hb hr hlk hB hS (by omega) (by omega) (⟨⟨tr, j, by rw [etr]; simp [epr], rfl⟩, rfl⟩) dX4_lots_10)

set_option maxRecDepth 100000 in
set_option maxHeartbeats 4000000 in
/-- flow -/
theorem c_xflow (E : ET) (ow : Nat → Nat × Nat) (x : Nat) (h0 h1 fx : Dy) (ts : List TR) (t k : Int32) (H : Heap) (hX : XR E ow x h0 h1 fx ts H) (hV : SV h0 h1 fx ts) (hK : BL ts)  : XCon E yX4_flow cX4_flow 3 (some FieldType.long) 10 2 12 [.ref x, .int t, .int k] H (fun r H' => (∃ tr j, (trd ts t).bind (fun tr => (prd tr k).map (fun j => (tr, j))) = some (tr, j) ∧ r = some (.long (flwS tr.1 tr.2.1 (bfC h0 h1 tr.1) fx j))) ∧ H' = H) (fun X => X = xI ∧ (trd ts t).bind (fun tr => prd tr k) = none) := by
  refine XCon.of (C := RX4) rfl (by decide +kernel) (Nat.le_of_ble_eq_true rfl) ?_
  intro p e s m below meth co ls hx hb hr hlk hml hown hts hxt hE hH hS hl
  have hl : lv_has ls 3 [(0, .ref x), (1, .int t), (2, .int k)] := hl
  have hB : eB E ≤ s.heap.size := by rw [hH]; exact hE.2.1
  have hE0 : EV E s s.heap := by rw [hH]; exact hE
  obtain ⟨q, fd, bk, wa, hO, hC, hD, hL, hT⟩ := hX.rd hV hK
  refine lv_aload_n hx hb dX4_flow_0 rfl (lv_at hl 0 rfl) ?_
  refine lv_iload_n hx hb dX4_flow_1 rfl (lv_at hl 1 rfl) ?_
  refine lv_iload_n hx hb dX4_flow_2 rfl (lv_at hl 2 rfl) ?_
  refine xVc hx hb hml hlk hxt hts hown hB hE hH hS kwX4_142 (c_swp E ow x h0 h1 fx ts q fd bk wa t k H hO hL hT hV) (fun X h => h) hO rfl (Nat.le_of_ble_eq_true rfl) rfl hl.1 rfl (Nat.le_of_ble_eq_true rfl) (by omega) (by omega) dX4_flow_3 (fun v1 H1 L1 ho1 hz1 hE hS => ?_)
  obtain ⟨i, tr, j, ⟨ht, etr, epr, ek, hj⟩, hv1, hh1⟩ := ho1
  subst hv1
  have hh1 := hh1.symm
  subst hh1
  dsimp only [Option.toList, List.nil_append, List.cons_append]
  subst ek
  obtain ⟨db, dh, bd, hW⟩ := hT i tr ht
  have hW0 := hW.1
  obtain ⟨n6, n1, n10⟩ := (hV.2.2.2.2.2.2.2.2 tr (List.mem_of_getElem? ht)).n
  have h9 := (hV.2.2.2.2.2.2.2.2 tr (List.mem_of_getElem? ht)).w
  refine lv_iload_n hx hb dX4_flow_6 rfl (lv_at hl 2 rfl) ?_
  refine lv_aload_n hx hb dX4_flow_7 rfl (lv_at hl 0 rfl) ?_
  refine gf hx hb hts hown hE lkX4_19 hO rfl dX4_flow_8 ?_
  refine pV hx hb hml hts hown hE kwX4_159 (c_flow E (wa i) tr.1 db dh bd (bfC h0 h1 tr.1) tr.2.1 tr.2.2 j (np tr) fd fx H n6 n10 hj h9 hD hW) hW0 rfl (Nat.le_of_ble_eq_true rfl) rfl hl.1 rfl (Nat.le_of_ble_eq_true rfl) (by omega) (by omega) dX4_flow_11 ?_
  exact vx_ret (cL hx hb hr hlk hB hS (by omega) (by omega) (⟨⟨tr, j, by rw [etr]; simp [epr], rfl⟩, rfl⟩) dX4_flow_14)

set_option maxRecDepth 100000 in
set_option maxHeartbeats 4000000 in
/-- isOpen -/
theorem c_xopen (E : ET) (ow : Nat → Nat × Nat) (x : Nat) (h0 h1 fx : Dy) (ts : List TR) (d : Int32) (H : Heap) (hX : XR E ow x h0 h1 fx ts H) (hV : SV h0 h1 fx ts) (hK : BL ts)  : XCon E yX4_isOpen cX4_isOpen 2 (some FieldType.boolean) 10 1 6 [.ref x, .int d] H (fun r H' => (inB d 0 3000 = true ∧ r = some (.int ((if opn h0 h1 d.toNatClampNeg then 1 else 0)))) ∧ H' = H) (fun X => X = xA ∧ inB d 0 3000 = false) := by
  refine XCon.of (C := RX4) rfl (by decide +kernel) (Nat.le_of_ble_eq_true rfl) ?_
  intro p e s m below meth co ls hx hb hr hlk hml hown hts hxt hE hH hS hl
  have hl : lv_has ls 2 [(0, .ref x), (1, .int d)] := hl
  have hB : eB E ≤ s.heap.size := by rw [hH]; exact hE.2.1
  have hE0 : EV E s s.heap := by rw [hH]; exact hE
  obtain ⟨q, fd, bk, wa, hO, hC, hD, hL, hT⟩ := hX.rd hV hK
  refine lv_iload_n hx hb dX4_isOpen_0 rfl (lv_at hl 1 rfl) ?_
  refine lv_iconst (v := 0) hx hb dX4_isOpen_1 (by decide) ?_
  refine lv_sipush (v := 3000) hx hb dX4_isOpen_2 (by decide) ?_
  refine xSc hx hb hml hlk hxt hts hown hB hE hH hS kwX4_37 (c_crange E d 0 3000 H) (fun _ h => h) (Nat.le_of_ble_eq_true rfl) rfl hl.1 rfl (Nat.le_of_ble_eq_true rfl) (by omega) (by omega) dX4_isOpen_5 (fun v1 H1 L1 ho1 hz1 hE hS => ?_)
  obtain ⟨g1, hv1, hh1⟩ := ho1
  subst hv1
  have hh1 := hh1.symm
  subst hh1
  dsimp only [Option.toList, List.nil_append, List.cons_append]
  obtain ⟨j, hj, ej⟩ := inB_nI (n := 3000) g1
  subst ej
  rw [nI_clamp (by omega)]
  obtain ⟨d0, d1, hq0, -⟩ := id hC
  refine lv_aload_n hx hb dX4_isOpen_8 rfl (lv_at hl 0 rfl) ?_
  refine gf hx hb hts hown hE lkX4_10 hO rfl dX4_isOpen_9 ?_
  refine lv_iload_n hx hb dX4_isOpen_12 rfl (lv_at hl 1 rfl) ?_
  refine pV hx hb hml hts hown hE kwX4_65 (c_opensOn E q j h0 h1 H (by omega) hC) hq0 rfl (Nat.le_of_ble_eq_true rfl) rfl hl.1 rfl (Nat.le_of_ble_eq_true rfl) (by omega) (by omega) dX4_isOpen_13 ?_
  exact vx_ret (cZ hx hb hr hlk hB hS (by omega) (by omega) (by cases opn h0 h1 j <;> decide) (⟨⟨g1, rfl⟩, rfl⟩) dX4_isOpen_16)

set_option maxRecDepth 100000 in
set_option maxHeartbeats 4000000 in
/-- roll -/
theorem c_xroll (E : ET) (ow : Nat → Nat × Nat) (x : Nat) (h0 h1 fx : Dy) (ts : List TR) (d : Int32) (H : Heap) (hX : XR E ow x h0 h1 fx ts H) (hV : SV h0 h1 fx ts) (hK : BL ts)  : XCon E yX4_roll cX4_roll 2 (some FieldType.int) 10 1 6 [.ref x, .int d] H (fun r H' => (inB d 0 3000 = true ∧ r = some (.int (nI (rol h0 h1 d.toNatClampNeg)))) ∧ H' = H) (fun X => X = xA ∧ inB d 0 3000 = false) := by
  refine XCon.of (C := RX4) rfl (by decide +kernel) (Nat.le_of_ble_eq_true rfl) ?_
  intro p e s m below meth co ls hx hb hr hlk hml hown hts hxt hE hH hS hl
  have hl : lv_has ls 2 [(0, .ref x), (1, .int d)] := hl
  have hB : eB E ≤ s.heap.size := by rw [hH]; exact hE.2.1
  have hE0 : EV E s s.heap := by rw [hH]; exact hE
  obtain ⟨q, fd, bk, wa, hO, hC, hD, hL, hT⟩ := hX.rd hV hK
  refine lv_iload_n hx hb dX4_roll_0 rfl (lv_at hl 1 rfl) ?_
  refine lv_iconst (v := 0) hx hb dX4_roll_1 (by decide) ?_
  refine lv_sipush (v := 3000) hx hb dX4_roll_2 (by decide) ?_
  refine xSc hx hb hml hlk hxt hts hown hB hE hH hS kwX4_37 (c_crange E d 0 3000 H) (fun _ h => h) (Nat.le_of_ble_eq_true rfl) rfl hl.1 rfl (Nat.le_of_ble_eq_true rfl) (by omega) (by omega) dX4_roll_5 (fun v1 H1 L1 ho1 hz1 hE hS => ?_)
  obtain ⟨g1, hv1, hh1⟩ := ho1
  subst hv1
  have hh1 := hh1.symm
  subst hh1
  dsimp only [Option.toList, List.nil_append, List.cons_append]
  obtain ⟨j, hj, ej⟩ := inB_nI (n := 3000) g1
  subst ej
  rw [nI_clamp (by omega)]
  obtain ⟨d0, d1, hq0, -⟩ := id hC
  refine lv_aload_n hx hb dX4_roll_8 rfl (lv_at hl 0 rfl) ?_
  refine gf hx hb hts hown hE lkX4_10 hO rfl dX4_roll_9 ?_
  refine lv_iload_n hx hb dX4_roll_12 rfl (lv_at hl 1 rfl) ?_
  refine pV hx hb hml hts hown hE kwX4_68 (c_rol E q j h0 h1 H (by omega) hC) hq0 rfl (Nat.le_of_ble_eq_true rfl) rfl hl.1 rfl (Nat.le_of_ble_eq_true rfl) (by omega) (by omega) dX4_roll_13 ?_
  exact vx_ret (cI hx hb hr hlk hB hS (by omega) (by omega) (⟨⟨g1, rfl⟩, rfl⟩) dX4_roll_16)
