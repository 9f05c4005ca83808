set_option maxRecDepth 100000 in
set_option maxHeartbeats 4000000 in
/-- Swap.startOf -/
theorem c_start (E : ET) (w : Nat) (T : Nat → Int32) (db dh bd : Nat) (bf : Nat → Int32) (bs hs : Dy) (k : Nat) (H : Heap) (hk : k < 11) (h : SRx E w T db dh bd bf bs hs H) : PCon E yX3_startOf cX3_startOf 2 (some FieldType.int) 1 [.ref w, .int (nI k)] H (some (.int (bf k))) := by
  refine PCon.of (C := RX3) rfl (by decide +kernel) (Nat.le_of_ble_eq_true rfl) ?_
  intro p e s m below meth co ls hx hb hr hlk hml hown hts hE hH hl
  have hl : lv_has ls 2 [(0, .ref w), (1, .int (nI k))] := hl
  obtain ⟨hO, hB, hHd, hA⟩ := id h
  refine lv_iload_n hx hb dX3_startOf_0 rfl (lv_at hl 1 rfl) ?_
  refine lv_if_lt (tgt := 22) hx hb dX3_startOf_1 (by decide) (fun c => ?_) (fun c => ?_)
  · exact absurd c (nI_pos (by omega))
  refine lv_iload_n hx hb dX3_startOf_4 rfl (lv_at hl 1 rfl) ?_
  refine lv_aload_n hx hb dX3_startOf_5 rfl (lv_at hl 0 rfl) ?_
  refine gf hx hb hts hown hE lkX3_53 hO rfl dX3_startOf_6 ?_
  refine aLI hx hb hE hA dX3_startOf_9 ?_
  refine lv_icmp_ge (tgt := 22) hx hb dX3_startOf_10 (by decide) (fun c => ?_) (fun c => ?_)
  · exact absurd c (nI_ge hk (by decide))
  refine lv_aload_n hx hb dX3_startOf_13 rfl (lv_at hl 0 rfl) ?_
  refine gf hx hb hts hown hE lkX3_53 hO rfl dX3_startOf_14 ?_
  refine lv_iload_n hx hb dX3_startOf_17 rfl (lv_at hl 1 rfl) ?_
  refine aI hx hb hE hA rfl hk (by decide) rfl dX3_startOf_18 ?_
  refine lv_goto (tgt := 23) hx hb dX3_startOf_19 (by decide) ?_
  exact pI hx hb hr hlk hH rfl dX3_startOf_23

set_option maxRecDepth 100000 in
set_option maxHeartbeats 4000000 in
/-- Swap.endOf -/
theorem c_end (E : ET) (w : Nat) (T : Nat → Int32) (db dh bd : Nat) (bf : Nat → Int32) (bs hs : Dy) (k : Nat) (H : Heap) (hk : k < 10) (h : SRx E w T db dh bd bf bs hs H) : PCon E yX3_endOf cX3_endOf 2 (some FieldType.int) 2 [.ref w, .int (nI k)] H (some (.int (bf (k + 1)))) := by
  refine PCon.of (C := RX3) rfl (by decide +kernel) (Nat.le_of_ble_eq_true rfl) ?_
  intro p e s m below meth co ls hx hb hr hlk hml hown hts hE hH hl
  have hl : lv_has ls 2 [(0, .ref w), (1, .int (nI k))] := hl
  obtain ⟨hO, hB, hHd, hA⟩ := id h
  refine lv_aload_n hx hb dX3_endOf_0 rfl (lv_at hl 0 rfl) ?_
  refine lv_iload_n hx hb dX3_endOf_1 rfl (lv_at hl 1 rfl) ?_
  refine lv_iconst (v := 1) hx hb dX3_endOf_2 (by decide) ?_
  refine lv_iadd hx hb dX3_endOf_3 ?_
  rw [show nI k + 1 = nI (k + 1) from nI_1 k]
  refine pV hx hb hml hts hown hE kwX3_63 (c_start E w T db dh bd bf bs hs (k + 1) H (by omega) h) hO rfl (Nat.le_of_ble_eq_true rfl) rfl hl.1 rfl (Nat.le_of_ble_eq_true rfl) (Nat.le_refl _) (Nat.le_refl _) dX3_endOf_4 ?_
  exact pI hx hb hr hlk hH rfl dX3_endOf_7

set_option maxRecDepth 100000 in
set_option maxHeartbeats 4000000 in
/-- Swap.lotsOf -/
theorem c_lots (E : ET) (w : Nat) (T : Nat → Int32) (db dh bd : Nat) (bf : Nat → Int32) (bs hs : Dy) (k : Nat) (H : Heap) (hk : k < 11) (h : SRx E w T db dh bd bf bs hs H) : PCon E yX3_lotsOf cX3_lotsOf 2 (some FieldType.int) 5 [.ref w, .int (nI k)] H (some (.int (lotS T bs bf k))) := by
  refine PCon.of (C := RX3) rfl (by decide +kernel) (Nat.le_of_ble_eq_true rfl) ?_
  intro p e s m below meth co ls hx hb hr hlk hml hown hts hE hH hl
  have hl : lv_has ls 2 [(0, .ref w), (1, .int (nI k))] := hl
  obtain ⟨hO, hB, hHd, hA⟩ := id h
  obtain ⟨a1, ad1, hdb⟩ := hB
  refine lv_aload_n hx hb dX3_lotsOf_0 rfl (lv_at hl 0 rfl) ?_
  refine gf hx hb hts hown hE lkX3_15 hO rfl dX3_lotsOf_1 ?_
  refine lv_aload_n hx hb dX3_lotsOf_4 rfl (lv_at hl 0 rfl) ?_
  refine gf hx hb hts hown hE lkX3_46 hO rfl dX3_lotsOf_5 ?_
  refine lv_aload_n hx hb dX3_lotsOf_8 rfl (lv_at hl 0 rfl) ?_
  refine lv_iload_n hx hb dX3_lotsOf_9 rfl (lv_at hl 1 rfl) ?_
  refine pV hx hb hml hts hown hE kwX3_63 (c_start E w T db dh bd bf bs hs k H hk h) hO rfl (Nat.le_of_ble_eq_true rfl) rfl hl.1 rfl (Nat.le_of_ble_eq_true rfl) (Nat.le_refl _) (Nat.le_refl _) dX3_lotsOf_10 ?_
  refine pV hx hb hml hts hown hE kwX3_66 (c_sum E db a1 ad1 bs (bf k) H hdb) hdb.1 rfl (Nat.le_of_ble_eq_true rfl) rfl hl.1 rfl (Nat.le_of_ble_eq_true rfl) (Nat.le_refl _) (Nat.le_refl _) dX3_lotsOf_13 ?_
  refine lv_isub hx hb dX3_lotsOf_16 ?_
  exact pI hx hb hr hlk hH rfl dX3_lotsOf_17

set_option maxRecDepth 100000 in
set_option maxHeartbeats 4000000 in
/-- Swap.restOfLots -/
theorem c_rest (E : ET) (w : Nat) (T : Nat → Int32) (db dh bd : Nat) (bf : Nat → Int32) (bs hs : Dy)  (H : Heap)  (h : SRx E w T db dh bd bf bs hs H) : PCon E yX3_restOfLots cX3_restOfLots 1 (some FieldType.int) 5 [.ref w] H (some (.int (rstS T bs))) := by
  refine PCon.of (C := RX3) rfl (by decide +kernel) (Nat.le_of_ble_eq_true rfl) ?_
  intro p e s m below meth co ls hx hb hr hlk hml hown hts hE hH hl
  have hl : lv_has ls 1 [(0, .ref w)] := hl
  obtain ⟨hO, hB, hHd, hA⟩ := id h
  obtain ⟨a1, ad1, hdb⟩ := hB
  refine lv_aload_n hx hb dX3_restOfLots_0 rfl (lv_at hl 0 rfl) ?_
  refine gf hx hb hts hown hE lkX3_15 hO rfl dX3_restOfLots_1 ?_
  refine lv_aload_n hx hb dX3_restOfLots_4 rfl (lv_at hl 0 rfl) ?_
  refine gf hx hb hts hown hE lkX3_46 hO rfl dX3_restOfLots_5 ?_
  refine lv_sipush (v := 3000) hx hb dX3_restOfLots_8 (by decide) ?_
  refine pV hx hb hml hts hown hE kwX3_66 (c_sum E db a1 ad1 bs 3000 H hdb) hdb.1 rfl (Nat.le_of_ble_eq_true rfl) rfl hl.1 rfl (Nat.le_of_ble_eq_true rfl) (Nat.le_refl _) (Nat.le_refl _) dX3_restOfLots_11 ?_
  refine lv_isub hx hb dX3_restOfLots_14 ?_
  exact pI hx hb hr hlk hH rfl dX3_restOfLots_15

set_option maxRecDepth 100000 in
set_option maxHeartbeats 4000000 in
/-- Swap.holderOn -/
theorem c_hold (E : ET) (w : Nat) (T : Nat → Int32) (db dh bd : Nat) (bf : Nat → Int32) (bs hs : Dy) (day : Int32) (H : Heap)  (h : SRx E w T db dh bd bf bs hs H) : PCon E yX3_holderOn cX3_holderOn 2 (some FieldType.int) 5 [.ref w, .int day] H (some (.int (hldS T hs day))) := by
  refine PCon.of (C := RX3) rfl (by decide +kernel) (Nat.le_of_ble_eq_true rfl) ?_
  intro p e s m below meth co ls hx hb hr hlk hml hown hts hE hH hl
  have hl : lv_has ls 2 [(0, .ref w), (1, .int day)] := hl
  obtain ⟨hO, hB, hHd, hA⟩ := id h
  obtain ⟨a2, ad2, hdh⟩ := hHd
  refine lv_aload_n hx hb dX3_holderOn_0 rfl (lv_at hl 0 rfl) ?_
  refine gf hx hb hts hown hE lkX3_50 hO rfl dX3_holderOn_1 ?_
  refine lv_iload_n hx hb dX3_holderOn_4 rfl (lv_at hl 1 rfl) ?_
  refine lv_aload_n hx hb dX3_holderOn_5 rfl (lv_at hl 0 rfl) ?_
  refine gf hx hb hts hown hE lkX3_9 hO rfl dX3_holderOn_6 ?_
  refine pV hx hb hml hts hown hE kwX3_69 (c_last E dh a2 ad2 hs day (T 0) H hdh) hdh.1 rfl (Nat.le_of_ble_eq_true rfl) rfl hl.1 rfl (Nat.le_of_ble_eq_true rfl) (Nat.le_refl _) (Nat.le_refl _) dX3_holderOn_9 ?_
  exact pI hx hb hr hlk hH rfl dX3_holderOn_12

set_option maxRecDepth 100000 in
set_option maxHeartbeats 4000000 in
/-- Swap.daysOf -/
theorem c_days (E : ET) (w : Nat) (T : Nat → Int32) (db dh bd : Nat) (bf : Nat → Int32) (bs hs : Dy) (k : Nat) (H : Heap) (hk : k < 10) (h : SRx E w T db dh bd bf bs hs H) : PCon E yX3_daysOf cX3_daysOf 2 (some FieldType.long) 2 [.ref w, .int (nI k)] H (some (.long (dys T bf k))) := by
  refine PCon.of (C := RX3) rfl (by decide +kernel) (Nat.le_of_ble_eq_true rfl) ?_
  intro p e s m below meth co ls hx hb hr hlk hml hown hts hE hH hl
  have hl : lv_has ls 2 [(0, .ref w), (1, .int (nI k))] := hl
  obtain ⟨hO, hB, hHd, hA⟩ := id h
  refine lv_aload_n hx hb dX3_daysOf_0 rfl (lv_at hl 0 rfl) ?_
  refine gf hx hb hts hown hE lkX3_37 hO rfl dX3_daysOf_1 ?_
  refine lv_if_ne (tgt := 24) hx hb dX3_daysOf_4 (by decide) (fun c => ?_) (fun c => ?_)
  · refine lv_aload_n hx hb dX3_daysOf_24 rfl (lv_at hl 0 rfl) ?_
    refine gf hx hb hts hown hE lkX3_28 hO rfl dX3_daysOf_25 ?_
    refine lv_i2l hx hb dX3_daysOf_28 rfl ?_
    exact pL hx hb hr hlk hH (by simp only [dys, if_neg c]) dX3_daysOf_29
  · refine lv_aload_n hx hb dX3_daysOf_7 rfl (lv_at hl 0 rfl) ?_
    refine lv_iload_n hx hb dX3_daysOf_8 rfl (lv_at hl 1 rfl) ?_
    refine lv_iconst (v := 1) hx hb dX3_daysOf_9 (by decide) ?_
    refine lv_iadd hx hb dX3_daysOf_10 ?_
    rw [show nI k + 1 = nI (k + 1) from nI_1 k]
    refine pV hx hb hml hts hown hE kwX3_63 (c_start E w T db dh bd bf bs hs (k + 1) H (by omega) h) hO rfl (Nat.le_of_ble_eq_true rfl) rfl hl.1 rfl (Nat.le_of_ble_eq_true rfl) (Nat.le_refl _) (Nat.le_refl _) dX3_daysOf_11 ?_
    refine lv_aload_n hx hb dX3_daysOf_14 rfl (lv_at hl 0 rfl) ?_
    refine lv_iload_n hx hb dX3_daysOf_15 rfl (lv_at hl 1 rfl) ?_
    refine pV hx hb hml hts hown hE kwX3_63 (c_start E w T db dh bd bf bs hs k H (by omega) h) hO rfl (Nat.le_of_ble_eq_true rfl) rfl hl.1 rfl (Nat.le_of_ble_eq_true rfl) (Nat.le_refl _) (Nat.le_refl _) dX3_daysOf_16 ?_
    refine lv_isub hx hb dX3_daysOf_19 ?_
    refine lv_i2l hx hb dX3_daysOf_20 rfl ?_
    refine lv_goto (tgt := 29) hx hb dX3_daysOf_21 (by decide) ?_
    exact pL hx hb hr hlk hH (by simp only [dys, if_pos c]) dX3_daysOf_29

set_option maxRecDepth 100000 in
set_option maxHeartbeats 4000000 in
/-- Swap.rateOf -/
theorem c_rate (E : ET) (w : Nat) (T : Nat → Int32) (db dh bd : Nat) (bf : Nat → Int32) (bs hs : Dy) (k dx : Nat) (fx : Dy) (H : Heap) (hk : k < 11) (hx9 : DR E dx fx H) (h : SRx E w T db dh bd bf bs hs H) : PCon E yX3_rateOf cX3_rateOf 3 (some FieldType.long) 5 [.ref w, .int (nI k), .ref dx] H (some (.long (rte fx bf k))) := by
  refine PCon.of (C := RX3) rfl (by decide +kernel) (Nat.le_of_ble_eq_true rfl) ?_
  intro p e s m below meth co ls hx hb hr hlk hml hown hts hE hH hl
  have hl : lv_has ls 3 [(0, .ref w), (1, .int (nI k)), (2, .ref dx)] := hl
  obtain ⟨hO, hB, hHd, hA⟩ := id h
  obtain ⟨a3, ad3, hdx⟩ := hx9
  refine lv_aload_n hx hb dX3_rateOf_0 rfl (lv_at hl 2 rfl) ?_
  refine lv_aload_n hx hb dX3_rateOf_1 rfl (lv_at hl 0 rfl) ?_
  refine lv_iload_n hx hb dX3_rateOf_2 rfl (lv_at hl 1 rfl) ?_
  refine pV hx hb hml hts hown hE kwX3_63 (c_start E w T db dh bd bf bs hs k H hk h) hO rfl (Nat.le_of_ble_eq_true rfl) rfl hl.1 rfl (Nat.le_of_ble_eq_true rfl) (Nat.le_refl _) (Nat.le_refl _) dX3_rateOf_3 ?_
  refine lv_iconst (v := 0) hx hb dX3_rateOf_6 (by decide) ?_
  refine pV hx hb hml hts hown hE kwX3_69 (c_last E dx a3 ad3 fx (bf k) 0 H hdx) hdx.1 rfl (Nat.le_of_ble_eq_true rfl) rfl hl.1 rfl (Nat.le_of_ble_eq_true rfl) (Nat.le_refl _) (Nat.le_refl _) dX3_rateOf_7 ?_
  refine lv_i2l hx hb dX3_rateOf_10 rfl ?_
  exact pL hx hb hr hlk hH rfl dX3_rateOf_11

set_option maxRecDepth 100000 in
set_option maxHeartbeats 4000000 in
/-- Swap.floatingOf -/
theorem c_float (E : ET) (w : Nat) (T : Nat → Int32) (db dh bd : Nat) (bf : Nat → Int32) (bs hs : Dy) (k np dx : Nat) (fx : Dy) (H : Heap) (hn : T 6 = nI np) (hnp : np ≤ 10) (hk : k < np) (h9 : T 9 = 0 ∨ T 9 = 1 ∨ T 9 = 2) (hx9 : DR E dx fx H) (h : SRx E w T db dh bd bf bs hs H) : PCon E yX3_floatingOf cX3_floatingOf 12 (some FieldType.long) 6 [.ref w, .int (nI k), .ref dx] H (some (.long (fltS T bf fx k))) := by
  refine PCon.of (C := RX3) rfl (by decide +kernel) (Nat.le_of_ble_eq_true rfl) ?_
  intro p e s m below meth co ls hx hb hr hlk hml hown hts hE hH hl
  have hl : lv_has ls 12 [(0, .ref w), (1, .int (nI k)), (2, .ref dx)] := hl
  obtain ⟨hO, hB, hHd, hA⟩ := id h
  refine lv_aload_n hx hb dX3_floatingOf_0 rfl (lv_at hl 0 rfl) ?_
  refine gf hx hb hts hown hE lkX3_40 hO rfl dX3_floatingOf_1 ?_
  refine lv_if_ne (tgt := 26) hx hb dX3_floatingOf_4 (by decide) (fun c => ?_) (fun c => ?_)
  · rcases (show T 9 = 1 ∨ ¬ T 9 = 1 by rcases h9 with q | q | q <;> rw [q] <;> decide) with c1 | c1
    · refine lv_aload_n hx hb dX3_floatingOf_26 rfl (lv_at hl 0 rfl) ?_
      refine gf hx hb hts hown hE lkX3_40 hO rfl dX3_floatingOf_27 ?_
      refine lv_iconst (v := 1) hx hb dX3_floatingOf_30 (by decide) ?_
      refine lv_icmp_ne (tgt := 41) hx hb dX3_floatingOf_31 (by decide) (fun c2 => ?_) (fun c2 => ?_)
      · exact absurd c1 c2
      refine lv_aload_n hx hb dX3_floatingOf_34 rfl (lv_at hl 0 rfl) ?_
      refine gf hx hb hts hown hE lkX3_34 hO rfl dX3_floatingOf_35 ?_
      refine lv_goto (tgt := 42) hx hb dX3_floatingOf_38 (by decide) ?_
      refine lv_istore_n (lv' := [(3, .int (T 7)), (0, .ref w), (1, .int (nI k)), (2, .ref dx)]) hx hb dX3_floatingOf_42 rfl hl (by decide) rfl (fun ls hl => ?_)
      refine lv_aload_n hx hb dX3_floatingOf_43 rfl (lv_at hl 1 rfl) ?_
      refine gf hx hb hts hown hE lkX3_34 hO rfl dX3_floatingOf_44 ?_
      refine lv_iload_n hx hb dX3_floatingOf_47 rfl (lv_at hl 0 rfl) ?_
      refine lv_isub hx hb dX3_floatingOf_48 ?_
      refine lv_istore (lv' := [(4, .int (T 7 - T 7)), (3, .int (T 7)), (0, .ref w), (1, .int (nI k)), (2, .ref dx)]) hx hb dX3_floatingOf_49 hl (by decide) rfl (fun ls hl => ?_)
      refine lv_lconst (v := 0) hx hb dX3_floatingOf_51 (by decide) ?_
      refine lv_lstore (lv' := [(5, .long 0), (4, .int (T 7 - T 7)), (3, .int (T 7)), (0, .ref w), (1, .int (nI k)), (2, .ref dx)]) hx hb dX3_floatingOf_52 hl (by decide) rfl (fun ls hl => ?_)
      refine lv_lconst (v := 0) hx hb dX3_floatingOf_54 (by decide) ?_
      refine lv_lstore (lv' := [(7, .long 0), (5, .long 0), (4, .int (T 7 - T 7)), (3, .int (T 7)), (0, .ref w), (1, .int (nI k)), (2, .ref dx)]) hx hb dX3_floatingOf_55 hl (by decide) rfl (fun ls hl => ?_)
      refine lv_iconst (v := 0) hx hb dX3_floatingOf_57 (by decide) ?_
      refine lv_istore (lv' := [(9, .int 0), (7, .long 0), (5, .long 0), (4, .int (T 7 - T 7)), (3, .int (T 7)), (0, .ref w), (1, .int (nI k)), (2, .ref dx)]) hx hb dX3_floatingOf_58 hl (by decide) rfl (fun ls hl => ?_)
      have loop : ∀ (n i : Nat) (g cc : Int64) (ls : Array Slot), i + n = k + 1 → cc = (flS T bf fx i).1 → (∀ j, i = j + 1 → g = flo ((3600000 + (flS T bf fx j).1) * (if T 9 = 1 then rte fx bf j + (T 7).toInt64 else rte fx bf j) * dys T bf j)) → lv_has ls 12 [(9, .int (nI i)), (7, .long g), (5, .long cc), (0, .ref w), (1, .int (nI k)), (2, .ref dx), (3, .int (T 7)), (4, .int (T 7 - T 7))] → W p (eL E) e (rmk 6 0 0) s m ([.ref w, .int (nI k), .ref dx]).toArray below meth co H [] 0 0 (MQ below (PQ (some (.long (fltS T bf fx k)))) ([.ref w, .int (nI k), .ref dx]).toArray s 0 0 (fun _ => False)) (F0 m 60 ls []) := by
        intro n
        induction n with
        | zero =>
          intro i g cc ls hi hc hg hl
          have hi2 : i = k + 1 := by omega
          subst hi2
          have hg := hg k rfl
          refine lv_iload hx hb dX3_floatingOf_60 (lv_at hl 0 rfl) ?_
          refine lv_iload_n hx hb dX3_floatingOf_62 rfl (lv_at hl 4 rfl) ?_
          refine lv_icmp_gt (tgt := 124) hx hb dX3_floatingOf_63 (by decide) (fun c3 => ?_) (fun c3 => ?_)
          rotate_left
          · exact absurd (show nI k < nI (k + 1) from nI_lt (by omega) (by omega)) c3
          refine lv_lload hx hb dX3_floatingOf_124 (lv_at hl 1 rfl) ?_
          refine lv_iload hx hb dX3_floatingOf_126 (lv_at hl 7 rfl) ?_
          refine lv_i2l hx hb dX3_floatingOf_128 rfl ?_
          refine lv_aload_n hx hb dX3_floatingOf_129 rfl (lv_at hl 3 rfl) ?_
          refine lv_iload_n hx hb dX3_floatingOf_130 rfl (lv_at hl 4 rfl) ?_
          refine pV hx hb hml hts hown hE kwX3_77 (c_days E w T db dh bd bf bs hs k H (by omega) h) hO rfl (Nat.le_of_ble_eq_true rfl) rfl hl.1 rfl (Nat.le_of_ble_eq_true rfl) (Nat.le_refl _) (Nat.le_refl _) dX3_floatingOf_131 ?_
          refine lv_lmul hx hb dX3_floatingOf_134 ?_
          refine lv_ladd hx hb dX3_floatingOf_135 ?_
          exact pL hx hb hr hlk hH (by rw [hg]; simp [fltS, flS, c1, Int32.sub_self]) dX3_floatingOf_136
        | succ n ih =>
          intro i g cc ls hi hc hg hl
          refine lv_iload hx hb dX3_floatingOf_60 (lv_at hl 0 rfl) ?_
          refine lv_iload_n hx hb dX3_floatingOf_62 rfl (lv_at hl 4 rfl) ?_
          refine lv_icmp_gt (tgt := 124) hx hb dX3_floatingOf_63 (by decide) (fun c3 => ?_) (fun c3 => ?_)
          · exact absurd c3 (nI_nlt (by omega) (by omega))
          refine lv_iload hx hb dX3_floatingOf_66 (lv_at hl 0 rfl) ?_
          refine lv_aload_n hx hb dX3_floatingOf_68 rfl (lv_at hl 3 rfl) ?_
          refine gf hx hb hts hown hE lkX3_31 hO rfl dX3_floatingOf_69 ?_
          refine lv_icmp_ge (tgt := 124) hx hb dX3_floatingOf_72 (by decide) (fun c4 => ?_) (fun c4 => ?_)
          · exact absurd c4 (by rw [hn]; exact nI_ge (by omega) (by omega))
          refine lv_aload_n hx hb dX3_floatingOf_75 rfl (lv_at hl 3 rfl) ?_
          refine lv_iload hx hb dX3_floatingOf_76 (lv_at hl 0 rfl) ?_
          refine lv_aload_n hx hb dX3_floatingOf_78 rfl (lv_at hl 5 rfl) ?_
          refine pV hx hb hml hts hown hE kwX3_73 (c_rate E w T db dh bd bf bs hs i dx fx H (by omega) hx9 h) hO rfl (Nat.le_of_ble_eq_true rfl) rfl hl.1 rfl (Nat.le_of_ble_eq_true rfl) (Nat.le_refl _) (Nat.le_refl _) dX3_floatingOf_79 ?_
          refine lv_iload_n hx hb dX3_floatingOf_82 rfl (lv_at hl 6 rfl) ?_
          refine lv_i2l hx hb dX3_floatingOf_83 rfl ?_
          refine lv_ladd hx hb dX3_floatingOf_84 ?_
          refine lv_lstore (lv' := [(10, .long (rte fx bf i + (T 7).toInt64)), (9, .int (nI i)), (7, .long g), (5, .long cc), (0, .ref w), (1, .int (nI k)), (2, .ref dx), (3, .int (T 7)), (4, .int (T 7 - T 7))]) hx hb dX3_floatingOf_85 hl (by decide) rfl (fun ls hl => ?_)
          refine lv_ldc2 (v := 3600000) hx hb hown (hts _ qw3_23) dX3_floatingOf_87 ?_
          refine lv_lload hx hb dX3_floatingOf_90 (lv_at hl 3 rfl) ?_
          refine lv_ladd hx hb dX3_floatingOf_92 ?_
          refine lv_lload hx hb dX3_floatingOf_93 (lv_at hl 0 rfl) ?_
          refine lv_lmul hx hb dX3_floatingOf_95 ?_
          refine lv_aload_n hx hb dX3_floatingOf_96 rfl (lv_at hl 4 rfl) ?_
          refine lv_iload hx hb dX3_floatingOf_97 (lv_at hl 1 rfl) ?_
          refine pV hx hb hml hts hown hE kwX3_77 (c_days E w T db dh bd bf bs hs i H (by omega) h) hO rfl (Nat.le_of_ble_eq_true rfl) rfl hl.1 rfl (Nat.le_of_ble_eq_true rfl) (Nat.le_refl _) (Nat.le_refl _) dX3_floatingOf_99 ?_
          refine lv_lmul hx hb dX3_floatingOf_102 ?_
          refine lv_ldc2 (v := 3600000) hx hb hown (hts _ qw3_23) dX3_floatingOf_103 ?_
          refine pS hx hb hml hts hown hE kwX3_83 (c_fdiv E (((3600000 + cc) * (rte fx bf i + (T 7).toInt64)) * dys T bf i) H) (Nat.le_of_ble_eq_true rfl) rfl hl.1 rfl (Nat.le_of_ble_eq_true rfl) (Nat.le_refl _) (Nat.le_refl _) dX3_floatingOf_106 ?_
          refine lv_lstore (lv' := [(7, .long (flo (((3600000 + cc) * (rte fx bf i + (T 7).toInt64)) * dys T bf i))), (10, .long (rte fx bf i + (T 7).toInt64)), (9, .int (nI i)), (5, .long cc), (0, .ref w), (1, .int (nI k)), (2, .ref dx), (3, .int (T 7)), (4, .int (T 7 - T 7))]) hx hb dX3_floatingOf_109 hl (by decide) rfl (fun ls hl => ?_)
          refine lv_lload hx hb dX3_floatingOf_111 (lv_at hl 3 rfl) ?_
          refine lv_lload hx hb dX3_floatingOf_113 (lv_at hl 0 rfl) ?_
          refine lv_ladd hx hb dX3_floatingOf_115 ?_
          refine lv_lstore (lv' := [(5, .long (cc + (flo (((3600000 + cc) * (rte fx bf i + (T 7).toInt64)) * dys T bf i)))), (7, .long (flo (((3600000 + cc) * (rte fx bf i + (T 7).toInt64)) * dys T bf i))), (10, .long (rte fx bf i + (T 7).toInt64)), (9, .int (nI i)), (0, .ref w), (1, .int (nI k)), (2, .ref dx), (3, .int (T 7)), (4, .int (T 7 - T 7))]) hx hb dX3_floatingOf_116 hl (by decide) rfl (fun ls hl => ?_)
          refine lv_iinc (v := nI (i + 1)) (lv' := [(9, .int (nI (i + 1))), (5, .long (cc + (flo (((3600000 + cc) * (rte fx bf i + (T 7).toInt64)) * dys T bf i)))), (7, .long (flo (((3600000 + cc) * (rte fx bf i + (T 7).toInt64)) * dys T bf i))), (10, .long (rte fx bf i + (T 7).toInt64)), (0, .ref w), (1, .int (nI k)), (2, .ref dx), (3, .int (T 7)), (4, .int (T 7 - T 7))]) hx hb dX3_floatingOf_118 hl (k := 3) rfl (nI_1 i) (by decide) rfl (fun ls hl => ?_)
          refine lv_goto (tgt := 60) hx hb dX3_floatingOf_121 (by decide) ?_
          have eg : (flo (((3600000 + cc) * (rte fx bf i + (T 7).toInt64)) * dys T bf i)) = flo ((3600000 + (flS T bf fx i).1) * (if T 9 = 1 then rte fx bf i + (T 7).toInt64 else rte fx bf i) * dys T bf i) := by rw [hc]; simp [c1]
          exact ih (i + 1) (flo (((3600000 + cc) * (rte fx bf i + (T 7).toInt64)) * dys T bf i)) (cc + (flo (((3600000 + cc) * (rte fx bf i + (T 7).toInt64)) * dys T bf i))) ls (by omega) (by rw [eg, hc]; rfl) (fun j hj => by cases hj; exact eg) (lv_sub hl [0, 2, 1, 4, 5, 6, 7, 8] rfl)
      exact loop (k + 1) 0 0 0 ls (by omega) rfl (fun j hj => by omega) (lv_sub hl [0, 1, 2, 5, 6, 7, 4, 3] rfl)
    · refine lv_aload_n hx hb dX3_floatingOf_26 rfl (lv_at hl 0 rfl) ?_
      refine gf hx hb hts hown hE lkX3_40 hO rfl dX3_floatingOf_27 ?_
      refine lv_iconst (v := 1) hx hb dX3_floatingOf_30 (by decide) ?_
      refine lv_icmp_ne (tgt := 41) hx hb dX3_floatingOf_31 (by decide) (fun c2 => ?_) (fun c2 => ?_)
      rotate_left
      · exact absurd c2 c1
      refine lv_iconst (v := 0) hx hb dX3_floatingOf_41 (by decide) ?_
      refine lv_istore_n (lv' := [(3, .int 0), (0, .ref w), (1, .int (nI k)), (2, .ref dx)]) hx hb dX3_floatingOf_42 rfl hl (by decide) rfl (fun ls hl => ?_)
      refine lv_aload_n hx hb dX3_floatingOf_43 rfl (lv_at hl 1 rfl) ?_
      refine gf hx hb hts hown hE lkX3_34 hO rfl dX3_floatingOf_44 ?_
      refine lv_iload_n hx hb dX3_floatingOf_47 rfl (lv_at hl 0 rfl) ?_
      refine lv_isub hx hb dX3_floatingOf_48 ?_
      refine lv_istore (lv' := [(4, .int (T 7 - 0)), (3, .int 0), (0, .ref w), (1, .int (nI k)), (2, .ref dx)]) hx hb dX3_floatingOf_49 hl (by decide) rfl (fun ls hl => ?_)
      refine lv_lconst (v := 0) hx hb dX3_floatingOf_51 (by decide) ?_
      refine lv_lstore (lv' := [(5, .long 0), (4, .int (T 7 - 0)), (3, .int 0), (0, .ref w), (1, .int (nI k)), (2, .ref dx)]) hx hb dX3_floatingOf_52 hl (by decide) rfl (fun ls hl => ?_)
      refine lv_lconst (v := 0) hx hb dX3_floatingOf_54 (by decide) ?_
      refine lv_lstore (lv' := [(7, .long 0), (5, .long 0), (4, .int (T 7 - 0)), (3, .int 0), (0, .ref w), (1, .int (nI k)), (2, .ref dx)]) hx hb dX3_floatingOf_55 hl (by decide) rfl (fun ls hl => ?_)
      refine lv_iconst (v := 0) hx hb dX3_floatingOf_57 (by decide) ?_
      refine lv_istore (lv' := [(9, .int 0), (7, .long 0), (5, .long 0), (4, .int (T 7 - 0)), (3, .int 0), (0, .ref w), (1, .int (nI k)), (2, .ref dx)]) hx hb dX3_floatingOf_58 hl (by decide) rfl (fun ls hl => ?_)
      have loop : ∀ (n i : Nat) (g cc : Int64) (ls : Array Slot), i + n = k + 1 → cc = (flS T bf fx i).1 → (∀ j, i = j + 1 → g = flo ((3600000 + (flS T bf fx j).1) * (if T 9 = 1 then rte fx bf j + (T 7).toInt64 else rte fx bf j) * dys T bf j)) → lv_has ls 12 [(9, .int (nI i)), (7, .long g), (5, .long cc), (0, .ref w), (1, .int (nI k)), (2, .ref dx), (3, .int 0), (4, .int (T 7 - 0))] → W p (eL E) e (rmk 6 0 0) s m ([.ref w, .int (nI k), .ref dx]).toArray below meth co H [] 0 0 (MQ below (PQ (some (.long (fltS T bf fx k)))) ([.ref w, .int (nI k), .ref dx]).toArray s 0 0 (fun _ => False)) (F0 m 60 ls []) := by
        intro n
        induction n with
        | zero =>
          intro i g cc ls hi hc hg hl
          have hi2 : i = k + 1 := by omega
          subst hi2
          have hg := hg k rfl
          refine lv_iload hx hb dX3_floatingOf_60 (lv_at hl 0 rfl) ?_
          refine lv_iload_n hx hb dX3_floatingOf_62 rfl (lv_at hl 4 rfl) ?_
          refine lv_icmp_gt (tgt := 124) hx hb dX3_floatingOf_63 (by decide) (fun c3 => ?_) (fun c3 => ?_)
          rotate_left
          · exact absurd (show nI k < nI (k + 1) from nI_lt (by omega) (by omega)) c3
          refine lv_lload hx hb dX3_floatingOf_124 (lv_at hl 1 rfl) ?_
          refine lv_iload hx hb dX3_floatingOf_126 (lv_at hl 7 rfl) ?_
          refine lv_i2l hx hb dX3_floatingOf_128 rfl ?_
          refine lv_aload_n hx hb dX3_floatingOf_129 rfl (lv_at hl 3 rfl) ?_
          refine lv_iload_n hx hb dX3_floatingOf_130 rfl (lv_at hl 4 rfl) ?_
          refine pV hx hb hml hts hown hE kwX3_77 (c_days E w T db dh bd bf bs hs k H (by omega) h) hO rfl (Nat.le_of_ble_eq_true rfl) rfl hl.1 rfl (Nat.le_of_ble_eq_true rfl) (Nat.le_refl _) (Nat.le_refl _) dX3_floatingOf_131 ?_
          refine lv_lmul hx hb dX3_floatingOf_134 ?_
          refine lv_ladd hx hb dX3_floatingOf_135 ?_
          exact pL hx hb hr hlk hH (by rw [hg]; simp [fltS, flS, c, c1]) dX3_floatingOf_136
        | succ n ih =>
          intro i g cc ls hi hc hg hl
          refine lv_iload hx hb dX3_floatingOf_60 (lv_at hl 0 rfl) ?_
          refine lv_iload_n hx hb dX3_floatingOf_62 rfl (lv_at hl 4 rfl) ?_
          refine lv_icmp_gt (tgt := 124) hx hb dX3_floatingOf_63 (by decide) (fun c3 => ?_) (fun c3 => ?_)
          · exact absurd c3 (nI_nlt (by omega) (by omega))
          refine lv_iload hx hb dX3_floatingOf_66 (lv_at hl 0 rfl) ?_
          refine lv_aload_n hx hb dX3_floatingOf_68 rfl (lv_at hl 3 rfl) ?_
          refine gf hx hb hts hown hE lkX3_31 hO rfl dX3_floatingOf_69 ?_
          refine lv_icmp_ge (tgt := 124) hx hb dX3_floatingOf_72 (by decide) (fun c4 => ?_) (fun c4 => ?_)
          · exact absurd c4 (by rw [hn]; exact nI_ge (by omega) (by omega))
          refine lv_aload_n hx hb dX3_floatingOf_75 rfl (lv_at hl 3 rfl) ?_
          refine lv_iload hx hb dX3_floatingOf_76 (lv_at hl 0 rfl) ?_
          refine lv_aload_n hx hb dX3_floatingOf_78 rfl (lv_at hl 5 rfl) ?_
          refine pV hx hb hml hts hown hE kwX3_73 (c_rate E w T db dh bd bf bs hs i dx fx H (by omega) hx9 h) hO rfl (Nat.le_of_ble_eq_true rfl) rfl hl.1 rfl (Nat.le_of_ble_eq_true rfl) (Nat.le_refl _) (Nat.le_refl _) dX3_floatingOf_79 ?_
          refine lv_iload_n hx hb dX3_floatingOf_82 rfl (lv_at hl 6 rfl) ?_
          refine lv_i2l hx hb dX3_floatingOf_83 rfl ?_
          refine lv_ladd hx hb dX3_floatingOf_84 ?_
          refine lv_lstore (lv' := [(10, .long (rte fx bf i + (0 : Int32).toInt64)), (9, .int (nI i)), (7, .long g), (5, .long cc), (0, .ref w), (1, .int (nI k)), (2, .ref dx), (3, .int 0), (4, .int (T 7 - 0))]) hx hb dX3_floatingOf_85 hl (by decide) rfl (fun ls hl => ?_)
          refine lv_ldc2 (v := 3600000) hx hb hown (hts _ qw3_23) dX3_floatingOf_87 ?_
          refine lv_lload hx hb dX3_floatingOf_90 (lv_at hl 3 rfl) ?_
          refine lv_ladd hx hb dX3_floatingOf_92 ?_
          refine lv_lload hx hb dX3_floatingOf_93 (lv_at hl 0 rfl) ?_
          refine lv_lmul hx hb dX3_floatingOf_95 ?_
          refine lv_aload_n hx hb dX3_floatingOf_96 rfl (lv_at hl 4 rfl) ?_
          refine lv_iload hx hb dX3_floatingOf_97 (lv_at hl 1 rfl) ?_
          refine pV hx hb hml hts hown hE kwX3_77 (c_days E w T db dh bd bf bs hs i H (by omega) h) hO rfl (Nat.le_of_ble_eq_true rfl) rfl hl.1 rfl (Nat.le_of_ble_eq_true rfl) (Nat.le_refl _) (Nat.le_refl _) dX3_floatingOf_99 ?_
          refine lv_lmul hx hb dX3_floatingOf_102 ?_
          refine lv_ldc2 (v := 3600000) hx hb hown (hts _ qw3_23) dX3_floatingOf_103 ?_
          refine pS hx hb hml hts hown hE kwX3_83 (c_fdiv E (((3600000 + cc) * (rte fx bf i + (0 : Int32).toInt64)) * dys T bf i) H) (Nat.le_of_ble_eq_true rfl) rfl hl.1 rfl (Nat.le_of_ble_eq_true rfl) (Nat.le_refl _) (Nat.le_refl _) dX3_floatingOf_106 ?_
          refine lv_lstore (lv' := [(7, .long (flo (((3600000 + cc) * (rte fx bf i + (0 : Int32).toInt64)) * dys T bf i))), (10, .long (rte fx bf i + (0 : Int32).toInt64)), (9, .int (nI i)), (5, .long cc), (0, .ref w), (1, .int (nI k)), (2, .ref dx), (3, .int 0), (4, .int (T 7 - 0))]) hx hb dX3_floatingOf_109 hl (by decide) rfl (fun ls hl => ?_)
          refine lv_lload hx hb dX3_floatingOf_111 (lv_at hl 3 rfl) ?_
          refine lv_lload hx hb dX3_floatingOf_113 (lv_at hl 0 rfl) ?_
          refine lv_ladd hx hb dX3_floatingOf_115 ?_
          refine lv_lstore (lv' := [(5, .long (cc + (flo (((3600000 + cc) * (rte fx bf i + (0 : Int32).toInt64)) * dys T bf i)))), (7, .long (flo (((3600000 + cc) * (rte fx bf i + (0 : Int32).toInt64)) * dys T bf i))), (10, .long (rte fx bf i + (0 : Int32).toInt64)), (9, .int (nI i)), (0, .ref w), (1, .int (nI k)), (2, .ref dx), (3, .int 0), (4, .int (T 7 - 0))]) hx hb dX3_floatingOf_116 hl (by decide) rfl (fun ls hl => ?_)
          refine lv_iinc (v := nI (i + 1)) (lv' := [(9, .int (nI (i + 1))), (5, .long (cc + (flo (((3600000 + cc) * (rte fx bf i + (0 : Int32).toInt64)) * dys T bf i)))), (7, .long (flo (((3600000 + cc) * (rte fx bf i + (0 : Int32).toInt64)) * dys T bf i))), (10, .long (rte fx bf i + (0 : Int32).toInt64)), (0, .ref w), (1, .int (nI k)), (2, .ref dx), (3, .int 0), (4, .int (T 7 - 0))]) hx hb dX3_floatingOf_118 hl (k := 3) rfl (nI_1 i) (by decide) rfl (fun ls hl => ?_)
          refine lv_goto (tgt := 60) hx hb dX3_floatingOf_121 (by decide) ?_
          have eg : (flo (((3600000 + cc) * (rte fx bf i + (0 : Int32).toInt64)) * dys T bf i)) = flo ((3600000 + (flS T bf fx i).1) * (if T 9 = 1 then rte fx bf i + (T 7).toInt64 else rte fx bf i) * dys T bf i) := by rw [hc]; simp [c1]
          exact ih (i + 1) (flo (((3600000 + cc) * (rte fx bf i + (0 : Int32).toInt64)) * dys T bf i)) (cc + (flo (((3600000 + cc) * (rte fx bf i + (0 : Int32).toInt64)) * dys T bf i))) ls (by omega) (by rw [eg, hc]; rfl) (fun j hj => by cases hj; exact eg) (lv_sub hl [0, 2, 1, 4, 5, 6, 7, 8] rfl)
      exact loop (k + 1) 0 0 0 ls (by omega) rfl (fun j hj => by omega) (lv_sub hl [0, 1, 2, 5, 6, 7, 4, 3] rfl)
  · refine lv_aload_n hx hb dX3_floatingOf_7 rfl (lv_at hl 0 rfl) ?_
    refine lv_iload_n hx hb dX3_floatingOf_8 rfl (lv_at hl 1 rfl) ?_
    refine lv_aload_n hx hb dX3_floatingOf_9 rfl (lv_at hl 2 rfl) ?_
    refine pV hx hb hml hts hown hE kwX3_73 (c_rate E w T db dh bd bf bs hs k dx fx H (by omega) hx9 h) hO rfl (Nat.le_of_ble_eq_true rfl) rfl hl.1 rfl (Nat.le_of_ble_eq_true rfl) (Nat.le_refl _) (Nat.le_refl _) dX3_floatingOf_10 ?_
    refine lv_aload_n hx hb dX3_floatingOf_13 rfl (lv_at hl 0 rfl) ?_
    refine gf hx hb hts hown hE lkX3_34 hO rfl dX3_floatingOf_14 ?_
    refine lv_i2l hx hb dX3_floatingOf_17 rfl ?_
    refine lv_ladd hx hb dX3_floatingOf_18 ?_
    refine lv_aload_n hx hb dX3_floatingOf_19 rfl (lv_at hl 0 rfl) ?_
    refine lv_iload_n hx hb dX3_floatingOf_20 rfl (lv_at hl 1 rfl) ?_
    refine pV hx hb hml hts hown hE kwX3_77 (c_days E w T db dh bd bf bs hs k H (by omega) h) hO rfl (Nat.le_of_ble_eq_true rfl) rfl hl.1 rfl (Nat.le_of_ble_eq_true rfl) (Nat.le_refl _) (Nat.le_refl _) dX3_floatingOf_21 ?_
    refine lv_lmul hx hb dX3_floatingOf_24 ?_
    exact pL hx hb hr hlk hH (by simp [fltS, flS, c]) dX3_floatingOf_25

set_option maxRecDepth 100000 in
set_option maxHeartbeats 4000000 in
/-- Swap.flowOf -/
theorem c_flow (E : ET) (w : Nat) (T : Nat → Int32) (db dh bd : Nat) (bf : Nat → Int32) (bs hs : Dy) (k np dx : Nat) (fx : Dy) (H : Heap) (hn : T 6 = nI np) (hnp : np ≤ 10) (hk : k < np) (h9 : T 9 = 0 ∨ T 9 = 1 ∨ T 9 = 2) (hx9 : DR E dx fx H) (h : SRx E w T db dh bd bf bs hs H) : PCon E yX3_flowOf cX3_flowOf 5 (some FieldType.long) 7 [.ref w, .int (nI k), .ref dx] H (some (.long (flwS T bs bf fx k))) := by
  refine PCon.of (C := RX3) rfl (by decide +kernel) (Nat.le_of_ble_eq_true rfl) ?_
  intro p e s m below meth co ls hx hb hr hlk hml hown hts hE hH hl
  have hl : lv_has ls 5 [(0, .ref w), (1, .int (nI k)), (2, .ref dx)] := hl
  obtain ⟨hO, hB, hHd, hA⟩ := id h
  refine lv_aload_n hx hb dX3_flowOf_0 rfl (lv_at hl 0 rfl) ?_
  refine lv_iload_n hx hb dX3_flowOf_1 rfl (lv_at hl 1 rfl) ?_
  refine lv_aload_n hx hb dX3_flowOf_2 rfl (lv_at hl 2 rfl) ?_
  refine pV hx hb hml hts hown hE kwX3_89 (c_float E w T db dh bd bf bs hs k np dx fx H hn hnp hk h9 hx9 h) hO rfl (Nat.le_of_ble_eq_true rfl) rfl hl.1 rfl (Nat.le_of_ble_eq_true rfl) (Nat.le_refl _) (Nat.le_refl _) dX3_flowOf_3 ?_
  refine lv_aload_n hx hb dX3_flowOf_6 rfl (lv_at hl 0 rfl) ?_
  refine gf hx hb hts hown hE lkX3_22 hO rfl dX3_flowOf_7 ?_
  refine lv_i2l hx hb dX3_flowOf_10 rfl ?_
  refine lv_aload_n hx hb dX3_flowOf_11 rfl (lv_at hl 0 rfl) ?_
  refine lv_iload_n hx hb dX3_flowOf_12 rfl (lv_at hl 1 rfl) ?_
  refine pV hx hb hml hts hown hE kwX3_77 (c_days E w T db dh bd bf bs hs k H (by omega) h) hO rfl (Nat.le_of_ble_eq_true rfl) rfl hl.1 rfl (Nat.le_of_ble_eq_true rfl) (Nat.le_refl _) (Nat.le_refl _) dX3_flowOf_13 ?_
  refine lv_lmul hx hb dX3_flowOf_16 ?_
  refine lv_lsub hx hb dX3_flowOf_17 ?_
  refine lv_lstore_n (lv' := [(3, .long (fltS T bf fx k - ((T 3).toInt64 * dys T bf k))), (0, .ref w), (1, .int (nI k)), (2, .ref dx)]) hx hb dX3_flowOf_18 rfl hl (by decide) rfl (fun ls hl => ?_)
  refine lv_aload_n hx hb dX3_flowOf_19 rfl (lv_at hl 1 rfl) ?_
  refine lv_iload_n hx hb dX3_flowOf_20 rfl (lv_at hl 2 rfl) ?_
  refine pV hx hb hml hts hown hE kwX3_92 (c_lots E w T db dh bd bf bs hs k H (by omega) h) hO rfl (Nat.le_of_ble_eq_true rfl) rfl hl.1 rfl (Nat.le_of_ble_eq_true rfl) (Nat.le_refl _) (Nat.le_refl _) dX3_flowOf_21 ?_
  refine lv_i2l hx hb dX3_flowOf_24 rfl ?_
  refine lv_aload_n hx hb dX3_flowOf_25 rfl (lv_at hl 1 rfl) ?_
  refine gf hx hb hts hown hE lkX3_18 hO rfl dX3_flowOf_26 ?_
  refine lv_if_eq (tgt := 36) hx hb dX3_flowOf_29 (by decide) (fun c => ?_) (fun c => ?_)
  · refine lv_lload_n hx hb dX3_flowOf_36 rfl (lv_at hl 0 rfl) ?_
    refine lv_lneg hx hb dX3_flowOf_37 ?_
    refine lv_lmul hx hb dX3_flowOf_38 ?_
    exact pL hx hb hr hlk hH (by simp [flwS, gnS, c]) dX3_flowOf_39
  · refine lv_lload_n hx hb dX3_flowOf_32 rfl (lv_at hl 0 rfl) ?_
    refine lv_goto (tgt := 38) hx hb dX3_flowOf_33 (by decide) ?_
    refine lv_lmul hx hb dX3_flowOf_38 ?_
    exact pL hx hb hr hlk hH (by simp [flwS, gnS, c]) dX3_flowOf_39

set_option maxRecDepth 100000 in
set_option maxHeartbeats 4000000 in
/-- Swap.cashOf -/
theorem c_cashOf (E : ET) (w : Nat) (T : Nat → Int32) (db dh bd : Nat) (bf : Nat → Int32) (bs hs : Dy) (np dx : Nat) (pa d1 d2 : Int32) (fx : Dy) (H : Heap) (hn : T 6 = nI np) (hnp : np ≤ 10) (h9 : T 9 = 0 ∨ T 9 = 1 ∨ T 9 = 2) (hx9 : DR E dx fx H) (h : SRx E w T db dh bd bf bs hs H) : PCon E yX3_cashOf cX3_cashOf 9 (some FieldType.long) 8 [.ref w, .int pa, .int d1, .int d2, .ref dx] H (some (.long (cshS T bs hs bf fx pa d1 d2 np))) := by
  refine PCon.of (C := RX3) rfl (by decide +kernel) (Nat.le_of_ble_eq_true rfl) ?_
  intro p e s m below meth co ls hx hb hr hlk hml hown hts hE hH hl
  have hl : lv_has ls 9 [(0, .ref w), (1, .int pa), (2, .int d1), (3, .int d2), (4, .ref dx)] := hl
  obtain ⟨hO, hB, hHd, hA⟩ := id h
  refine lv_lconst (v := 0) hx hb dX3_cashOf_0 (by decide) ?_
  refine lv_lstore (lv' := [(5, .long 0), (0, .ref w), (1, .int pa), (2, .int d1), (3, .int d2), (4, .ref dx)]) hx hb dX3_cashOf_1 hl (by decide) rfl (fun ls hl => ?_)
  refine lv_iconst (v := 0) hx hb dX3_cashOf_3 (by decide) ?_
  refine lv_istore (lv' := [(7, .int 0), (5, .long 0), (0, .ref w), (1, .int pa), (2, .int d1), (3, .int d2), (4, .ref dx)]) hx hb dX3_cashOf_4 hl (by decide) rfl (fun ls hl => ?_)
  have loop : ∀ (n i : Nat) (ls : Array Slot), i + n = np → lv_has ls 9 [(7, .int (nI i)), (5, .long (cshS T bs hs bf fx pa d1 d2 i)), (0, .ref w), (1, .int pa), (2, .int d1), (3, .int d2), (4, .ref dx)] → W p (eL E) e (rmk 8 0 0) s m ([.ref w, .int pa, .int d1, .int d2, .ref dx]).toArray below meth co H [] 0 0 (MQ below (PQ (some (.long (cshS T bs hs bf fx pa d1 d2 np)))) ([.ref w, .int pa, .int d1, .int d2, .ref dx]).toArray s 0 0 (fun _ => False)) (F0 m 6 ls []) := by
    intro n
    induction n with
    | zero =>
      intro i ls hi hl
      have hi2 : i = np := by omega
      subst hi2
      refine lv_iload hx hb dX3_cashOf_6 (lv_at hl 0 rfl) ?_
      refine lv_aload_n hx hb dX3_cashOf_8 rfl (lv_at hl 2 rfl) ?_
      refine gf hx hb hts hown hE lkX3_31 hO rfl dX3_cashOf_9 ?_
      refine lv_icmp_ge (tgt := 64) hx hb dX3_cashOf_12 (by decide) (fun c => ?_) (fun c => ?_)
      rotate_left
      · exact absurd (by rw [hn]; exact nI_le (Nat.le_refl _) (by omega)) c
      refine lv_lload hx hb dX3_cashOf_64 (lv_at hl 1 rfl) ?_
      exact pL hx hb hr hlk hH rfl dX3_cashOf_66
    | succ n ih =>
      intro i ls hi hl
      refine lv_iload hx hb dX3_cashOf_6 (lv_at hl 0 rfl) ?_
      refine lv_aload_n hx hb dX3_cashOf_8 rfl (lv_at hl 2 rfl) ?_
      refine gf hx hb hts hown hE lkX3_31 hO rfl dX3_cashOf_9 ?_
      refine lv_icmp_ge (tgt := 64) hx hb dX3_cashOf_12 (by decide) (fun c => ?_) (fun c => ?_)
      · exact absurd c (by rw [hn]; exact nI_ge (by omega) (by omega))
      refine lv_aload_n hx hb dX3_cashOf_15 rfl (lv_at hl 2 rfl) ?_
      refine lv_iload hx hb dX3_cashOf_16 (lv_at hl 0 rfl) ?_
      refine pV hx hb hml hts hown hE kwX3_95 (c_end E w T db dh bd bf bs hs i H (by omega) h) hO rfl (Nat.le_of_ble_eq_true rfl) rfl hl.1 rfl (Nat.le_of_ble_eq_true rfl) (Nat.le_refl _) (Nat.le_refl _) dX3_cashOf_18 ?_
      refine lv_istore (lv' := [(8, .int (bf (i + 1))), (7, .int (nI i)), (5, .long (cshS T bs hs bf fx pa d1 d2 i)), (0, .ref w), (1, .int pa), (2, .int d1), (3, .int d2), (4, .ref dx)]) hx hb dX3_cashOf_21 hl (by decide) rfl (fun ls hl => ?_)
      refine lv_iload hx hb dX3_cashOf_23 (lv_at hl 0 rfl) ?_
      refine lv_iload_n hx hb dX3_cashOf_25 rfl (lv_at hl 5 rfl) ?_
      refine lv_icmp_lt (tgt := 58) hx hb dX3_cashOf_26 (by decide) (fun c1 => ?_) (fun c1 => ?_)
      · refine lv_iinc (v := nI (i + 1)) (lv' := [(7, .int (nI (i + 1))), (8, .int (bf (i + 1))), (5, .long (cshS T bs hs bf fx pa d1 d2 i)), (0, .ref w), (1, .int pa), (2, .int d1), (3, .int d2), (4, .ref dx)]) hx hb dX3_cashOf_58 hl (k := 1) rfl (nI_1 i) (by decide) rfl (fun ls hl => ?_)
        refine lv_goto (tgt := 6) hx hb dX3_cashOf_61 (by decide) ?_
        exact ih (i + 1) ls (by omega) (by
          have e : cshS T bs hs bf fx pa d1 d2 (i + 1) = cshS T bs hs bf fx pa d1 d2 i := by simp only [cshS]; rw [if_neg (fun q => absurd q.1 (Int32.not_le.mpr c1))]
          rw [e]
          exact (lv_sub hl [0, 2, 3, 4, 5, 6, 7] rfl))
      · refine lv_iload hx hb dX3_cashOf_29 (lv_at hl 0 rfl) ?_
        refine lv_iload_n hx hb dX3_cashOf_31 rfl (lv_at hl 6 rfl) ?_
        refine lv_icmp_gt (tgt := 58) hx hb dX3_cashOf_32 (by decide) (fun c2 => ?_) (fun c2 => ?_)
        · refine lv_iinc (v := nI (i + 1)) (lv' := [(7, .int (nI (i + 1))), (8, .int (bf (i + 1))), (5, .long (cshS T bs hs bf fx pa d1 d2 i)), (0, .ref w), (1, .int pa), (2, .int d1), (3, .int d2), (4, .ref dx)]) hx hb dX3_cashOf_58 hl (k := 1) rfl (nI_1 i) (by decide) rfl (fun ls hl => ?_)
          refine lv_goto (tgt := 6) hx hb dX3_cashOf_61 (by decide) ?_
          exact ih (i + 1) ls (by omega) (by
            have e : cshS T bs hs bf fx pa d1 d2 (i + 1) = cshS T bs hs bf fx pa d1 d2 i := by simp only [cshS]; rw [if_neg (fun q => absurd q.2.1 (Int32.not_le.mpr c2))]
            rw [e]
            exact (lv_sub hl [0, 2, 3, 4, 5, 6, 7] rfl))
        · refine lv_aload_n hx hb dX3_cashOf_35 rfl (lv_at hl 3 rfl) ?_
          refine lv_iload hx hb dX3_cashOf_36 (lv_at hl 0 rfl) ?_
          refine pV hx hb hml hts hown hE kwX3_98 (c_hold E w T db dh bd bf bs hs (bf (i + 1)) H h) hO rfl (Nat.le_of_ble_eq_true rfl) rfl hl.1 rfl (Nat.le_of_ble_eq_true rfl) (Nat.le_refl _) (Nat.le_refl _) dX3_cashOf_38 ?_
          refine lv_iload_n hx hb dX3_cashOf_41 rfl (lv_at hl 4 rfl) ?_
          refine lv_icmp_ne (tgt := 58) hx hb dX3_cashOf_42 (by decide) (fun c3 => ?_) (fun c3 => ?_)
          · refine lv_iinc (v := nI (i + 1)) (lv' := [(7, .int (nI (i + 1))), (8, .int (bf (i + 1))), (5, .long (cshS T bs hs bf fx pa d1 d2 i)), (0, .ref w), (1, .int pa), (2, .int d1), (3, .int d2), (4, .ref dx)]) hx hb dX3_cashOf_58 hl (k := 1) rfl (nI_1 i) (by decide) rfl (fun ls hl => ?_)
            refine lv_goto (tgt := 6) hx hb dX3_cashOf_61 (by decide) ?_
            exact ih (i + 1) ls (by omega) (by
              have e : cshS T bs hs bf fx pa d1 d2 (i + 1) = cshS T bs hs bf fx pa d1 d2 i := by simp only [cshS]; rw [if_neg (fun q => c3 q.2.2)]
              rw [e]
              exact (lv_sub hl [0, 2, 3, 4, 5, 6, 7] rfl))
          · refine lv_lload hx hb dX3_cashOf_45 (lv_at hl 2 rfl) ?_
            refine lv_aload_n hx hb dX3_cashOf_47 rfl (lv_at hl 3 rfl) ?_
            refine lv_iload hx hb dX3_cashOf_48 (lv_at hl 1 rfl) ?_
            refine lv_aload hx hb dX3_cashOf_50 (lv_at hl 7 rfl) ?_
            refine pV hx hb hml hts hown hE kwX3_101 (c_flow E w T db dh bd bf bs hs i np dx fx H hn hnp (by omega) h9 hx9 h) hO rfl (Nat.le_of_ble_eq_true rfl) rfl hl.1 rfl (Nat.le_of_ble_eq_true rfl) (Nat.le_refl _) (Nat.le_refl _) dX3_cashOf_52 ?_
            refine lv_ladd hx hb dX3_cashOf_55 ?_
            refine lv_lstore (lv' := [(5, .long (cshS T bs hs bf fx pa d1 d2 i + flwS T bs bf fx i)), (8, .int (bf (i + 1))), (7, .int (nI i)), (0, .ref w), (1, .int pa), (2, .int d1), (3, .int d2), (4, .ref dx)]) hx hb dX3_cashOf_56 hl (by decide) rfl (fun ls hl => ?_)
            refine lv_iinc (v := nI (i + 1)) (lv' := [(7, .int (nI (i + 1))), (5, .long (cshS T bs hs bf fx pa d1 d2 i + flwS T bs bf fx i)), (8, .int (bf (i + 1))), (0, .ref w), (1, .int pa), (2, .int d1), (3, .int d2), (4, .ref dx)]) hx hb dX3_cashOf_58 hl (k := 2) rfl (nI_1 i) (by decide) rfl (fun ls hl => ?_)
            refine lv_goto (tgt := 6) hx hb dX3_cashOf_61 (by decide) ?_
            exact ih (i + 1) ls (by omega) (by
              have e : cshS T bs hs bf fx pa d1 d2 (i + 1) = cshS T bs hs bf fx pa d1 d2 i + flwS T bs bf fx i := by simp only [cshS]; rw [if_pos ⟨Int32.not_lt.mp c1, Int32.not_lt.mp c2, c3⟩]
              rw [e]
              exact (lv_sub hl [0, 1, 3, 4, 5, 6, 7] rfl))
  exact loop np 0 ls (by omega) (lv_sub hl [0, 1, 2, 3, 4, 5, 6] rfl)

set_option maxRecDepth 100000 in
set_option maxHeartbeats 4000000 in
/-- Swap.nextPayDay -/
theorem c_np (E : ET) (w : Nat) (T : Nat → Int32) (db dh bd : Nat) (bf : Nat → Int32) (bs hs : Dy) (np : Nat) (pa day : Int32) (H : Heap) (hn : T 6 = nI np) (hnp : np ≤ 10) (h : SRx E w T db dh bd bf bs hs H) : PCon E yX3_nextPayDay cX3_nextPayDay 5 (some FieldType.int) 6 [.ref w, .int pa, .int day] H (some (.int (npS T hs bf pa day np 0))) := by
  refine PCon.of (C := RX3) rfl (by decide +kernel) (Nat.le_of_ble_eq_true rfl) ?_
  intro p e s m below meth co ls hx hb hr hlk hml hown hts hE hH hl
  have hl : lv_has ls 5 [(0, .ref w), (1, .int pa), (2, .int day)] := hl
  obtain ⟨hO, hB, hHd, hA⟩ := id h
  refine lv_iconst (v := 0) hx hb dX3_nextPayDay_0 (by decide) ?_
  refine lv_istore_n (lv' := [(3, .int 0), (0, .ref w), (1, .int pa), (2, .int day)]) hx hb dX3_nextPayDay_1 rfl hl (by decide) rfl (fun ls hl => ?_)
  have loop : ∀ (n i : Nat) (ls : Array Slot), i + n = np → npS T hs bf pa day np 0 = npS T hs bf pa day n i → lv_has ls 5 [(3, .int (nI i)), (0, .ref w), (1, .int pa), (2, .int day)] → W p (eL E) e (rmk 6 0 0) s m ([.ref w, .int pa, .int day]).toArray below meth co H [] 0 0 (MQ below (PQ (some (.int (npS T hs bf pa day np 0)))) ([.ref w, .int pa, .int day]).toArray s 0 0 (fun _ => False)) (F0 m 2 ls []) := by
    intro n
    induction n with
    | zero =>
      intro i ls hi he hl
      have hi2 : i = np := by omega
      subst hi2
      refine lv_iload_n hx hb dX3_nextPayDay_2 rfl (lv_at hl 0 rfl) ?_
      refine lv_aload_n hx hb dX3_nextPayDay_3 rfl (lv_at hl 1 rfl) ?_
      refine gf hx hb hts hown hE lkX3_31 hO rfl dX3_nextPayDay_4 ?_
      refine lv_icmp_ge (tgt := 42) hx hb dX3_nextPayDay_7 (by decide) (fun c => ?_) (fun c => ?_)
      rotate_left
      · exact absurd (by rw [hn]; exact nI_le (Nat.le_refl _) (by omega)) c
      refine lv_iconst (v := (-1)) hx hb dX3_nextPayDay_42 (by decide) ?_
      exact pI hx hb hr hlk hH (by rw [he]; rfl) dX3_nextPayDay_43
    | succ n ih =>
      intro i ls hi he hl
      refine lv_iload_n hx hb dX3_nextPayDay_2 rfl (lv_at hl 0 rfl) ?_
      refine lv_aload_n hx hb dX3_nextPayDay_3 rfl (lv_at hl 1 rfl) ?_
      refine gf hx hb hts hown hE lkX3_31 hO rfl dX3_nextPayDay_4 ?_
      refine lv_icmp_ge (tgt := 42) hx hb dX3_nextPayDay_7 (by decide) (fun c => ?_) (fun c => ?_)
      · exact absurd c (by rw [hn]; exact nI_ge (by omega) (by omega))
      refine lv_aload_n hx hb dX3_nextPayDay_10 rfl (lv_at hl 1 rfl) ?_
      refine lv_iload_n hx hb dX3_nextPayDay_11 rfl (lv_at hl 0 rfl) ?_
      refine pV hx hb hml hts hown hE kwX3_95 (c_end E w T db dh bd bf bs hs i H (by omega) h) hO rfl (Nat.le_of_ble_eq_true rfl) rfl hl.1 rfl (Nat.le_of_ble_eq_true rfl) (Nat.le_refl _) (Nat.le_refl _) dX3_nextPayDay_12 ?_
      refine lv_istore (lv' := [(4, .int (bf (i + 1))), (3, .int (nI i)), (0, .ref w), (1, .int pa), (2, .int day)]) hx hb dX3_nextPayDay_15 hl (by decide) rfl (fun ls hl => ?_)
      refine lv_iload hx hb dX3_nextPayDay_17 (lv_at hl 0 rfl) ?_
      refine lv_iload_n hx hb dX3_nextPayDay_19 rfl (lv_at hl 4 rfl) ?_
      refine lv_icmp_lt (tgt := 36) hx hb dX3_nextPayDay_20 (by decide) (fun c1 => ?_) (fun c1 => ?_)
      · refine lv_iinc (v := nI (i + 1)) (lv' := [(3, .int (nI (i + 1))), (4, .int (bf (i + 1))), (0, .ref w), (1, .int pa), (2, .int day)]) hx hb dX3_nextPayDay_36 hl (k := 1) rfl (nI_1 i) (by decide) rfl (fun ls hl => ?_)
        refine lv_goto (tgt := 2) hx hb dX3_nextPayDay_39 (by decide) ?_
        exact ih (i + 1) ls (by omega) (he.trans (by simp only [npS]; rw [if_neg (fun q => absurd q.1 (Int32.not_le.mpr c1))])) (lv_sub hl [0, 2, 3, 4] rfl)
      · refine lv_aload_n hx hb dX3_nextPayDay_23 rfl (lv_at hl 2 rfl) ?_
        refine lv_iload hx hb dX3_nextPayDay_24 (lv_at hl 0 rfl) ?_
        refine pV hx hb hml hts hown hE kwX3_98 (c_hold E w T db dh bd bf bs hs (bf (i + 1)) H h) hO rfl (Nat.le_of_ble_eq_true rfl) rfl hl.1 rfl (Nat.le_of_ble_eq_true rfl) (Nat.le_refl _) (Nat.le_refl _) dX3_nextPayDay_26 ?_
        refine lv_iload_n hx hb dX3_nextPayDay_29 rfl (lv_at hl 3 rfl) ?_
        refine lv_icmp_ne (tgt := 36) hx hb dX3_nextPayDay_30 (by decide) (fun c3 => ?_) (fun c3 => ?_)
        · refine lv_iinc (v := nI (i + 1)) (lv' := [(3, .int (nI (i + 1))), (4, .int (bf (i + 1))), (0, .ref w), (1, .int pa), (2, .int day)]) hx hb dX3_nextPayDay_36 hl (k := 1) rfl (nI_1 i) (by decide) rfl (fun ls hl => ?_)
          refine lv_goto (tgt := 2) hx hb dX3_nextPayDay_39 (by decide) ?_
          exact ih (i + 1) ls (by omega) (he.trans (by simp only [npS]; rw [if_neg (fun q => c3 q.2)])) (lv_sub hl [0, 2, 3, 4] rfl)
        · refine lv_iload hx hb dX3_nextPayDay_33 (lv_at hl 0 rfl) ?_
          exact pI hx hb hr hlk hH (by rw [he]; simp only [npS]; rw [if_pos ⟨Int32.not_lt.mp c1, c3⟩]) dX3_nextPayDay_35
  exact loop np 0 ls (by omega) rfl (lv_sub hl [0, 1, 2, 3] rfl)
