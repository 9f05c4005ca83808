theorem i32_lt4 {v : Int32} : v < 4 ↔ v ≤ 3 := by
  rw [Int32.lt_iff_toInt_lt, Int32.le_iff_toInt_le]
  show v.toInt < 4 ↔ v.toInt ≤ 3
  omega
theorem min_sw {a b : Int32} : (if b < a then b else a) = (if a < b then a else b) := by
  by_cases h : b < a
  · rw [if_pos h, if_neg (fun q => absurd (Int32.lt_trans h q) Int32.lt_irrefl)]
  · by_cases h2 : a < b
    · rw [if_neg h, if_pos h2]
    · rw [if_neg h, if_neg h2]
      exact Int32.le_antisymm (Int32.not_lt.mp h) (Int32.not_lt.mp h2)
set_option maxRecDepth 100000 in
set_option maxHeartbeats 4000000 in
/-- checkRange -/
theorem c_crange (E : ET) (v lo hi : Int32) (H : Heap) : XCon E yX4_checkRange cX4_checkRange 3 (none : Option FieldType) 6 1 6 [.int v, .int lo, .int hi] H (fun r H' => inB v lo hi = true ∧ r = none ∧ H' = H) (fun X => X = xA ∧ inB v lo hi = false) := by
  refine XCon.of (C := RX4) rfl (by decide +kernel) (Nat.le_of_ble_eq_true rfl) ?_
  intro p e s m below meth co ls hx hb hr hlk hml hown hts hxt hE hH hS hl
  have hl : lv_has ls 3 [(0, .int v), (1, .int lo), (2, .int hi)] := hl
  have hB : eB E ≤ s.heap.size := by rw [hH]; exact hE.2.1
  have hE0 : EV E s s.heap := by rw [hH]; exact hE
  refine lv_iload_n hx hb dX4_checkRange_0 rfl (lv_at hl 0 rfl) ?_
  refine lv_iload_n hx hb dX4_checkRange_1 rfl (lv_at hl 1 rfl) ?_
  refine lv_icmp_lt (tgt := 10) hx hb dX4_checkRange_2 (by decide) (fun c1 => ?_) (fun c1 => ?_)
  · exact tS (is := 178) (text := "an argument is out of range") hx hb hml hlk hxt hts hown hE0 hH hS txA (by decide) (⟨rfl, by simp [inB, Int32.not_le.mpr c1]⟩) hl.1 (Nat.le_of_ble_eq_true rfl) (Nat.le_of_ble_eq_true rfl) (by omega) (by omega) dX4_checkRange_10 dX4_checkRange_13 dX4_checkRange_14 dX4_checkRange_16 dX4_checkRange_19
  · refine lv_iload_n hx hb dX4_checkRange_5 rfl (lv_at hl 0 rfl) ?_
    refine lv_iload_n hx hb dX4_checkRange_6 rfl (lv_at hl 2 rfl) ?_
    refine lv_icmp_le (tgt := 20) hx hb dX4_checkRange_7 (by decide) (fun c2 => ?_) (fun c2 => ?_)
    · exact vx_ret (cU hx hb hr hlk hB hS (by omega) (by omega) (⟨by simp [inB, Int32.not_lt.mp c1, c2], rfl, rfl⟩) dX4_checkRange_20)
    · exact tS (is := 178) (text := "an argument is out of range") hx hb hml hlk hxt hts hown hE0 hH hS txA (by decide) (⟨rfl, by simp [inB, c2]⟩) hl.1 (Nat.le_of_ble_eq_true rfl) (Nat.le_of_ble_eq_true rfl) (by omega) (by omega) dX4_checkRange_10 dX4_checkRange_13 dX4_checkRange_14 dX4_checkRange_16 dX4_checkRange_19

set_option maxRecDepth 100000 in
set_option maxHeartbeats 4000000 in
/-- checkParty -/
theorem c_cparty (E : ET) (v : Int32) (H : Heap) : XCon E yX4_checkParty cX4_checkParty 1 (none : Option FieldType) 6 1 6 [.int v] H (fun r H' => inB v 0 3 = true ∧ r = none ∧ H' = H) (fun X => X = xI ∧ inB v 0 3 = false) := by
  refine XCon.of (C := RX4) rfl (by decide +kernel) (Nat.le_of_ble_eq_true rfl) ?_
  intro p e s m below meth co ls hx hb hr hlk hml hown hts hxt hE hH hS hl
  have hl : lv_has ls 1 [(0, .int v)] := hl
  have hB : eB E ≤ s.heap.size := by rw [hH]; exact hE.2.1
  have hE0 : EV E s s.heap := by rw [hH]; exact hE
  refine lv_iload_n hx hb dX4_checkParty_0 rfl (lv_at hl 0 rfl) ?_
  refine lv_if_lt (tgt := 9) hx hb dX4_checkParty_1 (by decide) (fun c1 => ?_) (fun c1 => ?_)
  · exact tS (is := 186) (text := "no such party") hx hb hml hlk hxt hts hown hE0 hH hS txI (by decide) (⟨rfl, by simp [inB, Int32.not_le.mpr c1]⟩) hl.1 (Nat.le_of_ble_eq_true rfl) (Nat.le_of_ble_eq_true rfl) (by omega) (by omega) dX4_checkParty_9 dX4_checkParty_12 dX4_checkParty_13 dX4_checkParty_15 dX4_checkParty_18
  · refine lv_iload_n hx hb dX4_checkParty_4 rfl (lv_at hl 0 rfl) ?_
    refine lv_iconst (v := 4) hx hb dX4_checkParty_5 (by decide) ?_
    refine lv_icmp_lt (tgt := 19) hx hb dX4_checkParty_6 (by decide) (fun c2 => ?_) (fun c2 => ?_)
    · exact vx_ret (cU hx hb hr hlk hB hS (by omega) (by omega) (⟨by simp [inB, Int32.not_lt.mp c1, i32_lt4.mp c2], rfl, rfl⟩) dX4_checkParty_19)
    · have hc9 : ¬ v ≤ 3 := fun q => c2 (i32_lt4.mpr q)
      exact tS (is := 186) (text := "no such party") hx hb hml hlk hxt hts hown hE0 hH hS txI (by decide) (⟨rfl, by simp [inB, hc9]⟩) hl.1 (Nat.le_of_ble_eq_true rfl) (Nat.le_of_ble_eq_true rfl) (by omega) (by omega) dX4_checkParty_9 dX4_checkParty_12 dX4_checkParty_13 dX4_checkParty_15 dX4_checkParty_18

set_option maxRecDepth 100000 in
set_option maxHeartbeats 4000000 in
/-- checkSpan -/
theorem c_cspan (E : ET) (d1 d2 : Int32) (H : Heap) : XCon E yX4_checkSpan cX4_checkSpan 2 (none : Option FieldType) 7 2 12 [.int d1, .int d2] H (fun r H' => (inB d1 0 3100 = true ∧ inB d2 d1 (if d1 + 400 < 3100 then d1 + 400 else 3100) = true) ∧ r = none ∧ H' = H) (fun X => X = xA ∧ ¬ (inB d1 0 3100 = true ∧ inB d2 d1 (if d1 + 400 < 3100 then d1 + 400 else 3100) = true)) := by
  refine XCon.of (C := RX4) rfl (by decide +kernel) (Nat.le_of_ble_eq_true rfl) ?_
  intro p e s m below meth co ls hx hb hr hlk hml hown hts hxt hE hH hS hl
  have hl : lv_has ls 2 [(0, .int d1), (1, .int d2)] := hl
  have hB : eB E ≤ s.heap.size := by rw [hH]; exact hE.2.1
  have hE0 : EV E s s.heap := by rw [hH]; exact hE
  refine lv_iload_n hx hb dX4_checkSpan_0 rfl (lv_at hl 0 rfl) ?_
  refine lv_iconst (v := 0) hx hb dX4_checkSpan_1 (by decide) ?_
  refine lv_sipush (v := 3100) hx hb dX4_checkSpan_2 (by decide) ?_
  refine xSc hx hb hml hlk hxt hts hown hB hE hH hS kwX4_37 (c_crange E d1 0 3100 H) (fun X h => ⟨h.1, fun q => by rw [h.2] at q; cases q.1⟩) (Nat.le_of_ble_eq_true rfl) rfl hl.1 rfl (Nat.le_of_ble_eq_true rfl) (by omega) (by omega) dX4_checkSpan_5 (fun v1 H1 L1 ho1 hz1 hE hS => ?_)
  obtain ⟨g1, hv1, hh1⟩ := ho1
  subst hv1
  have hh1 := hh1.symm
  subst hh1
  dsimp only [Option.toList, List.nil_append, List.cons_append]
  refine lv_iload_n hx hb dX4_checkSpan_8 rfl (lv_at hl 1 rfl) ?_
  refine lv_iload_n hx hb dX4_checkSpan_9 rfl (lv_at hl 0 rfl) ?_
  refine lv_iload_n hx hb dX4_checkSpan_10 rfl (lv_at hl 0 rfl) ?_
  refine lv_sipush (v := 400) hx hb dX4_checkSpan_11 (by decide) ?_
  refine lv_iadd hx hb dX4_checkSpan_14 ?_
  refine lv_sipush (v := 3100) hx hb dX4_checkSpan_15 (by decide) ?_
  refine va_mmin hx hb (by rw [hml]; exact hl.1.symm) hown (hts _ qw2_233) (hts _ qw2_61) (hts _ qw1_14) (hts _ qw2_62) (Nat.le_of_ble_eq_true rfl) (by show _ ≤ 280; simp [Value.category]) (by show 0 + 1 ≤ 2; omega) (by show 0 + 6 ≤ 12; omega) dX4_checkSpan_18 ?_
  obtain ⟨mi, hmi⟩ : ∃ z, z = (if d1 + 400 < 3100 then d1 + 400 else (3100 : Int32)) := ⟨_, rfl⟩
  try rw [show (if (3100 : Int32) < d1 + 400 then (3100 : Int32) else d1 + 400) = (if d1 + 400 < 3100 then d1 + 400 else 3100) from min_sw]
  rw [← hmi]
  refine xSc hx hb hml hlk hxt hts hown hB hE hH hS kwX4_37 (c_crange E d2 d1 mi H) (fun X h => ⟨h.1, fun q => absurd (h.2.symm.trans q.2) (by decide)⟩) (Nat.le_of_ble_eq_true rfl) rfl hl.1 rfl (Nat.le_of_ble_eq_true rfl) (by omega) (by omega) dX4_checkSpan_21 (fun v2 H2 L2 ho2 hz2 hE hS => ?_)
  obtain ⟨g2, hv2, hh2⟩ := ho2
  subst hv2
  have hh2 := hh2.symm
  subst hh2
  dsimp only [Option.toList, List.nil_append, List.cons_append]
  exact vx_ret (cU hx hb hr hlk hB hS (by omega) (by omega) (⟨⟨g1, g2⟩, rfl, rfl⟩) dX4_checkSpan_24)

set_option maxRecDepth 100000 in
set_option maxHeartbeats 4000000 in
/-- swapAt -/
theorem c_swapAt (E : ET) (ow : Nat → Nat × Nat) (x q fd bk : Nat) (wa : Nat → Nat) (ts : List TR) (t : Int32) (H : Heap) (hO : OB E 5 [.ref q, .ref fd, .ref bk] x H) (hL : LR E bk ts.length wa H) (hn : ts.length ≤ 10) (hW : ∀ i, i < ts.length → ∃ fs, OB E 4 fs (wa i) H) : XCon E yX4_swapAt cX4_swapAt 2 (some (FieldType.object "Resetline$Swap")) 6 1 6 [.ref x, .int t] H (fun r H' => ∃ i, i < ts.length ∧ t = nI i ∧ r = some (.ref (wa i)) ∧ H' = H) (fun X => X = xI ∧ ¬ ∃ i, i < ts.length ∧ t = nI i) := by
  refine XCon.of (C := RX4) rfl (by decide +kernel) (Nat.le_of_ble_eq_true rfl) ?_
  intro p e s m below meth co ls hx hb hr hlk hml hown hts hxt hE hH hS hl
  have hl : lv_has ls 2 [(0, .ref x), (1, .int t)] := hl
  have hB : eB E ≤ s.heap.size := by rw [hH]; exact hE.2.1
  have hE0 : EV E s s.heap := by rw [hH]; exact hE
  obtain ⟨fs0, hOb, hcl⟩ := hL.ob
  refine lv_iload_n hx hb dX4_swapAt_0 rfl (lv_at hl 1 rfl) ?_
  refine lv_if_lt (tgt := 15) hx hb dX4_swapAt_1 (by decide) (fun c1 => ?_) (fun c1 => ?_)
  · exact tS (is := 188) (text := "no such trade") hx hb hml hlk hxt hts hown hE0 hH hS txI (by decide) (⟨rfl, fun ⟨i, h1, h2⟩ => by rw [h2] at c1; exact nI_pos (by omega) c1⟩) hl.1 (Nat.le_of_ble_eq_true rfl) (Nat.le_of_ble_eq_true rfl) (by omega) (by omega) dX4_swapAt_15 dX4_swapAt_18 dX4_swapAt_19 dX4_swapAt_21 dX4_swapAt_24
  · refine lv_iload_n hx hb dX4_swapAt_4 rfl (lv_at hl 1 rfl) ?_
    refine lv_aload_n hx hb dX4_swapAt_5 rfl (lv_at hl 0 rfl) ?_
    refine gf hx hb hts hown hE lkX4_26 hO rfl dX4_swapAt_6 ?_
    refine pV hx hb hml hts hown hE kwX4_85 (c_size E bk ts.length wa H hL) hOb rfl (Nat.le_of_ble_eq_true rfl) rfl hl.1 rfl (Nat.le_of_ble_eq_true rfl) (by omega) (by omega) dX4_swapAt_9 ?_
    obtain ⟨j, hj, ej⟩ := nI_of c1
    subst ej
    refine lv_icmp_lt (tgt := 25) hx hb dX4_swapAt_12 (by decide) (fun c2 => ?_) (fun c2 => ?_)
    · have hlt : j < ts.length := (by
        rcases Nat.lt_or_ge j ts.length with q9 | q9
        · exact q9
        · exact absurd c2 (nI_nlt q9 hj))
      refine lv_aload_n hx hb dX4_swapAt_25 rfl (lv_at hl 0 rfl) ?_
      refine gf hx hb hts hown hE lkX4_26 hO rfl dX4_swapAt_26 ?_
      refine lv_iload_n hx hb dX4_swapAt_29 rfl (lv_at hl 1 rfl) ?_
      refine pV hx hb hml hts hown hE kwX4_134 (c_get E bk ts.length j wa H hL hlt) hOb rfl (Nat.le_of_ble_eq_true rfl) rfl hl.1 rfl (Nat.le_of_ble_eq_true rfl) (by omega) (by omega) dX4_swapAt_30 ?_
      obtain ⟨fsw, hw⟩ := hW j hlt
      refine cst hx hb hts hown hE qw2_74 hw rfl dX4_swapAt_33 ?_
      exact vx_ret (cR hx hb hr (Or.inl ⟨_, rfl⟩) (Or.inr ⟨_, rfl⟩) hlk hB hS (by omega) (by omega) (⟨j, hlt, rfl, rfl, rfl⟩) dX4_swapAt_36)
    · exact tS (is := 188) (text := "no such trade") hx hb hml hlk hxt hts hown hE0 hH hS txI (by decide) (⟨rfl, fun ⟨i, h1, h2⟩ => by have := (nI_eq hj (by omega)).mp h2; subst this; exact (c2 (nI_lt h1 (by omega)))⟩) hl.1 (Nat.le_of_ble_eq_true rfl) (Nat.le_of_ble_eq_true rfl) (by omega) (by omega) dX4_swapAt_15 dX4_swapAt_18 dX4_swapAt_19 dX4_swapAt_21 dX4_swapAt_24
