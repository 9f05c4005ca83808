set_option maxRecDepth 100000 in
set_option maxHeartbeats 4000000 in
/-- Diary.entryOf -/
theorem c_entryOf (E : ET) (d a : Nat) (ad : Nat → Nat) (es : Dy) (day : Int32) (H : Heap) (h : DRx E d a ad es H) : PCon E yX1_entryOf cX1_entryOf 4 (some (FieldType.object "Resetline$Entry")) 4 [.ref d, .int day] H (some (va_rf ((ixL day 0 es).map ad))) := by
  refine PCon.of (C := RX1) rfl (by decide +kernel) (Nat.le_of_ble_eq_true rfl) ?_
  intro p e s m below meth co ls hx hb hr hlk hml hown hts hE hH hl
  have hl : lv_has ls 4 [(0, .ref d), (1, .int day)] := hl
  obtain ⟨hO, hL, hEs⟩ := h
  obtain ⟨fs0, hOa, hcl⟩ := hL.ob
  refine lv_iconst (v := 0) hx hb dX1_entryOf_0 (by decide) ?_
  refine lv_istore_n (lv' := [(2, .int 0), (0, .ref d), (1, .int day)]) hx hb dX1_entryOf_1 rfl hl (by decide) rfl (fun ls hl => ?_)
  have loop : ∀ (xs : Dy) (i : Nat) (ls : Array Slot), es.drop i = xs → i ≤ es.length → ixL day 0 es = ixL day i xs → lv_has ls 4 [(2, .int (nI i)), (0, .ref d), (1, .int day)] → W p (eL E) e (rmk 4 0 0) s m ([.ref d, .int day]).toArray below meth co H [] 0 0 (MQ below (PQ (some (va_rf ((ixL day 0 es).map ad)))) ([.ref d, .int day]).toArray s 0 0 (fun _ => False)) (F0 m 2 ls []) := by
    intro xs
    induction xs with
    | nil =>
      intro i ls hd hi he hl
      have hi2 := drop_n hd hi
      refine lv_iload_n hx hb dX1_entryOf_2 rfl (lv_at hl 0 rfl) ?_
      refine lv_aload_n hx hb dX1_entryOf_3 rfl (lv_at hl 1 rfl) ?_
      refine gf hx hb hts hown hE lkX1_12 hO rfl dX1_entryOf_4 ?_
      refine pV hx hb hml hts hown hE kwX1_18 (c_size E a es.length ad H hL) hOa rfl (Nat.le_of_ble_eq_true rfl) rfl hl.1 rfl (Nat.le_of_ble_eq_true rfl) (Nat.le_refl _) (Nat.le_refl _) dX1_entryOf_7 ?_
      refine lv_icmp_ge (tgt := 41) hx hb dX1_entryOf_10 (by decide) (fun c => ?_) (fun c => ?_)
      rotate_left
      · exact absurd (nI_le (by omega) (by omega)) c
      refine lv_null hx hb dX1_entryOf_41 ?_
      exact pA hx hb hr (Or.inl ⟨_, rfl⟩) (Or.inl rfl) hlk hH (by rw [he]; rfl) dX1_entryOf_42
    | cons x xs ih =>
      intro i ls hd hi he hl
      obtain ⟨hx0, hlt, hd2⟩ := drop_c hd
      refine lv_iload_n hx hb dX1_entryOf_2 rfl (lv_at hl 0 rfl) ?_
      refine lv_aload_n hx hb dX1_entryOf_3 rfl (lv_at hl 1 rfl) ?_
      refine gf hx hb hts hown hE lkX1_12 hO rfl dX1_entryOf_4 ?_
      refine pV hx hb hml hts hown hE kwX1_18 (c_size E a es.length ad H hL) hOa rfl (Nat.le_of_ble_eq_true rfl) rfl hl.1 rfl (Nat.le_of_ble_eq_true rfl) (Nat.le_refl _) (Nat.le_refl _) dX1_entryOf_7 ?_
      refine lv_icmp_ge (tgt := 41) hx hb dX1_entryOf_10 (by decide) (fun c => ?_) (fun c => ?_)
      · exact absurd c (nI_ge hlt (by omega))
      refine lv_aload_n hx hb dX1_entryOf_13 rfl (lv_at hl 1 rfl) ?_
      refine gf hx hb hts hown hE lkX1_12 hO rfl dX1_entryOf_14 ?_
      refine lv_iload_n hx hb dX1_entryOf_17 rfl (lv_at hl 0 rfl) ?_
      refine pV hx hb hml hts hown hE kwX1_41 (c_get E a es.length i ad H hL hlt) hOa rfl (Nat.le_of_ble_eq_true rfl) rfl hl.1 rfl (Nat.le_of_ble_eq_true rfl) (Nat.le_refl _) (Nat.le_refl _) dX1_entryOf_18 ?_
      refine cst hx hb hts hown hE qw1_217 (hEs i x hx0) rfl dX1_entryOf_21 ?_
      refine lv_astore_n (lv' := [(3, .ref (ad i)), (2, .int (nI i)), (0, .ref d), (1, .int day)]) hx hb dX1_entryOf_24 rfl hl (by decide) rfl (fun ls hl => ?_)
      refine lv_aload_n hx hb dX1_entryOf_25 rfl (lv_at hl 0 rfl) ?_
      refine gf hx hb hts hown hE lkX1_45 (hEs i x hx0) rfl dX1_entryOf_26 ?_
      refine lv_iload_n hx hb dX1_entryOf_29 rfl (lv_at hl 3 rfl) ?_
      refine lv_icmp_ne (tgt := 35) hx hb dX1_entryOf_30 (by decide) (fun c => ?_) (fun c => ?_)
      · refine lv_iinc (v := nI (i + 1)) (lv' := [(2, .int (nI (i + 1))), (3, .ref (ad i)), (0, .ref d), (1, .int day)]) hx hb dX1_entryOf_35 hl (k := 1) rfl (nI_1 i) (by decide) rfl (fun ls hl => ?_)
        refine lv_goto (tgt := 2) hx hb dX1_entryOf_38 (by decide) ?_
        exact ih (i + 1) ls hd2 (by omega) (he.trans (by simp only [ixL, if_neg c])) (lv_sub hl [0, 2, 3] rfl)
      · refine lv_aload_n hx hb dX1_entryOf_33 rfl (lv_at hl 0 rfl) ?_
        exact pA hx hb hr (Or.inl ⟨_, rfl⟩) (Or.inr ⟨_, rfl⟩) hlk hH (by rw [he]; simp only [ixL, if_pos c]; rfl) dX1_entryOf_34
  exact loop es 0 ls rfl (Nat.zero_le _) rfl (lv_sub hl [0, 1, 2] rfl)

set_option maxRecDepth 100000 in
set_option maxHeartbeats 4000000 in
/-- Diary.has -/
theorem c_has (E : ET) (d a : Nat) (ad : Nat → Nat) (es : Dy) (day : Int32) (H : Heap) (h : DRx E d a ad es H) : PCon E yX1_has cX1_has 2 (some FieldType.boolean) 5 [.ref d, .int day] H (some (.int (if dHas es day then 1 else 0))) := by
  refine PCon.of (C := RX1) rfl (by decide +kernel) (Nat.le_of_ble_eq_true rfl) ?_
  intro p e s m below meth co ls hx hb hr hlk hml hown hts hE hH hl
  have hl : lv_has ls 2 [(0, .ref d), (1, .int day)] := hl
  have hM := c_entryOf E d a ad es day H h
  obtain ⟨hO, hL, hEs⟩ := h
  obtain ⟨fs0, hOa, hcl⟩ := hL.ob
  cases hix : ixL day 0 es with
  | none =>
    rw [hix] at hM
    refine lv_aload_n hx hb dX1_has_0 rfl (lv_at hl 0 rfl) ?_
    refine lv_iload_n hx hb dX1_has_1 rfl (lv_at hl 1 rfl) ?_
    refine pV hx hb hml hts hown hE kwX1_22 hM hO rfl (Nat.le_of_ble_eq_true rfl) rfl hl.1 rfl (Nat.le_of_ble_eq_true rfl) (Nat.le_refl _) (Nat.le_refl _) dX1_has_2 ?_
    refine lv_ifnullN (tgt := 12) hx hb dX1_has_5 (by decide) ?_
    refine lv_iconst (v := 0) hx hb dX1_has_12 (by decide) ?_
    exact pZ hx hb hr hlk hH (by simp [dHas, hix]) dX1_has_13
  | some j =>
    rw [hix] at hM
    refine lv_aload_n hx hb dX1_has_0 rfl (lv_at hl 0 rfl) ?_
    refine lv_iload_n hx hb dX1_has_1 rfl (lv_at hl 1 rfl) ?_
    refine pV hx hb hml hts hown hE kwX1_22 hM hO rfl (Nat.le_of_ble_eq_true rfl) rfl hl.1 rfl (Nat.le_of_ble_eq_true rfl) (Nat.le_refl _) (Nat.le_refl _) dX1_has_2 ?_
    refine lv_ifnull hx hb dX1_has_5 ?_
    refine lv_iconst (v := 1) hx hb dX1_has_8 (by decide) ?_
    refine lv_goto (tgt := 13) hx hb dX1_has_9 (by decide) ?_
    exact pZ hx hb hr hlk hH (by simp [dHas, hix]) dX1_has_13

set_option maxRecDepth 100000 in
set_option maxHeartbeats 4000000 in
/-- Diary.count -/
theorem c_count (E : ET) (d a : Nat) (ad : Nat → Nat) (es : Dy) (H : Heap) (h : DRx E d a ad es H) : PCon E yX1_count cX1_count 1 (some FieldType.int) 2 [.ref d] H (some (.int (nI es.length))) := by
  refine PCon.of (C := RX1) rfl (by decide +kernel) (Nat.le_of_ble_eq_true rfl) ?_
  intro p e s m below meth co ls hx hb hr hlk hml hown hts hE hH hl
  have hl : lv_has ls 1 [(0, .ref d)] := hl
  obtain ⟨hO, hL, hEs⟩ := h
  obtain ⟨fs0, hOa, hcl⟩ := hL.ob
  refine lv_aload_n hx hb dX1_count_0 rfl (lv_at hl 0 rfl) ?_
  refine gf hx hb hts hown hE lkX1_12 hO rfl dX1_count_1 ?_
  refine pV hx hb hml hts hown hE kwX1_18 (c_size E a es.length ad H hL) hOa rfl (Nat.le_of_ble_eq_true rfl) rfl hl.1 rfl (Nat.le_of_ble_eq_true rfl) (Nat.le_refl _) (Nat.le_refl _) dX1_count_4 ?_
  exact pI hx hb hr hlk hH rfl dX1_count_7

set_option maxRecDepth 100000 in
set_option maxHeartbeats 4000000 in
/-- Diary.latestValue -/
theorem c_last (E : ET) (d a : Nat) (ad : Nat → Nat) (es : Dy) (day o : Int32) (H : Heap) (h : DRx E d a ad es H) : PCon E yX1_latestValue cX1_latestValue 7 (some FieldType.int) 4 [.ref d, .int day, .int o] H (some (.int (dLast es day o))) := by
  refine PCon.of (C := RX1) rfl (by decide +kernel) (Nat.le_of_ble_eq_true rfl) ?_
  intro p e s m below meth co ls hx hb hr hlk hml hown hts hE hH hl
  have hl : lv_has ls 7 [(0, .ref d), (1, .int day), (2, .int o)] := hl
  obtain ⟨hO, hL, hEs⟩ := h
  obtain ⟨fs0, hOa, hcl⟩ := hL.ob
  refine lv_iconst (v := (-1)) hx hb dX1_latestValue_0 (by decide) ?_
  refine lv_istore_n (lv' := [(3, .int (-1)), (0, .ref d), (1, .int day), (2, .int o)]) hx hb dX1_latestValue_1 rfl hl (by decide) rfl (fun ls hl => ?_)
  refine lv_iload_n hx hb dX1_latestValue_2 rfl (lv_at hl 3 rfl) ?_
  refine lv_istore (lv' := [(4, .int o), (3, .int (-1)), (0, .ref d), (1, .int day), (2, .int o)]) hx hb dX1_latestValue_3 hl (by decide) rfl (fun ls hl => ?_)
  refine lv_iconst (v := 0) hx hb dX1_latestValue_5 (by decide) ?_
  refine lv_istore (lv' := [(5, .int 0), (4, .int o), (3, .int (-1)), (0, .ref d), (1, .int day), (2, .int o)]) hx hb dX1_latestValue_6 hl (by decide) rfl (fun ls hl => ?_)
  have loop : ∀ (xs : Dy) (i : Nat) (lt v : Int32) (ls : Array Slot), es.drop i = xs → i ≤ es.length → dLast es day o = lvL day lt v xs → lv_has ls 7 [(5, .int (nI i)), (4, .int v), (3, .int lt), (0, .ref d), (1, .int day)] → W p (eL E) e (rmk 4 0 0) s m ([.ref d, .int day, .int o]).toArray below meth co H [] 0 0 (MQ below (PQ (some (.int (dLast es day o)))) ([.ref d, .int day, .int o]).toArray s 0 0 (fun _ => False)) (F0 m 8 ls []) := by
    intro xs
    induction xs with
    | nil =>
      intro i lt v ls hd hi he hl
      have hi2 := drop_n hd hi
      refine lv_iload hx hb dX1_latestValue_8 (lv_at hl 0 rfl) ?_
      refine lv_aload_n hx hb dX1_latestValue_10 rfl (lv_at hl 3 rfl) ?_
      refine gf hx hb hts hown hE lkX1_12 hO rfl dX1_latestValue_11 ?_
      refine pV hx hb hml hts hown hE kwX1_18 (c_size E a es.length ad H hL) hOa rfl (Nat.le_of_ble_eq_true rfl) rfl hl.1 rfl (Nat.le_of_ble_eq_true rfl) (Nat.le_refl _) (Nat.le_refl _) dX1_latestValue_14 ?_
      refine lv_icmp_ge (tgt := 71) hx hb dX1_latestValue_17 (by decide) (fun c => ?_) (fun c => ?_)
      rotate_left
      · exact absurd (nI_le (by omega) (by omega)) c
      refine lv_iload hx hb dX1_latestValue_71 (lv_at hl 1 rfl) ?_
      exact pI hx hb hr hlk hH (by rw [he]; rfl) dX1_latestValue_73
    | cons x xs ih =>
      intro i lt v ls hd hi he hl
      obtain ⟨hx0, hlt, hd2⟩ := drop_c hd
      refine lv_iload hx hb dX1_latestValue_8 (lv_at hl 0 rfl) ?_
      refine lv_aload_n hx hb dX1_latestValue_10 rfl (lv_at hl 3 rfl) ?_
      refine gf hx hb hts hown hE lkX1_12 hO rfl dX1_latestValue_11 ?_
      refine pV hx hb hml hts hown hE kwX1_18 (c_size E a es.length ad H hL) hOa rfl (Nat.le_of_ble_eq_true rfl) rfl hl.1 rfl (Nat.le_of_ble_eq_true rfl) (Nat.le_refl _) (Nat.le_refl _) dX1_latestValue_14 ?_
      refine lv_icmp_ge (tgt := 71) hx hb dX1_latestValue_17 (by decide) (fun c => ?_) (fun c => ?_)
      · exact absurd c (nI_ge hlt (by omega))
      refine lv_aload_n hx hb dX1_latestValue_20 rfl (lv_at hl 3 rfl) ?_
      refine gf hx hb hts hown hE lkX1_12 hO rfl dX1_latestValue_21 ?_
      refine lv_iload hx hb dX1_latestValue_24 (lv_at hl 0 rfl) ?_
      refine pV hx hb hml hts hown hE kwX1_41 (c_get E a es.length i ad H hL hlt) hOa rfl (Nat.le_of_ble_eq_true rfl) rfl hl.1 rfl (Nat.le_of_ble_eq_true rfl) (Nat.le_refl _) (Nat.le_refl _) dX1_latestValue_26 ?_
      refine cst hx hb hts hown hE qw1_217 (hEs i x hx0) rfl dX1_latestValue_29 ?_
      refine lv_astore (lv' := [(6, .ref (ad i)), (5, .int (nI i)), (4, .int v), (3, .int lt), (0, .ref d), (1, .int day)]) hx hb dX1_latestValue_32 hl (by decide) rfl (fun ls hl => ?_)
      refine lv_aload hx hb dX1_latestValue_34 (lv_at hl 0 rfl) ?_
      refine gf hx hb hts hown hE lkX1_45 (hEs i x hx0) rfl dX1_latestValue_36 ?_
      refine lv_iload_n hx hb dX1_latestValue_39 rfl (lv_at hl 5 rfl) ?_
      refine lv_icmp_gt (tgt := 65) hx hb dX1_latestValue_40 (by decide) (fun c => ?_) (fun c => ?_)
      · refine lv_iinc (v := nI (i + 1)) (lv' := [(5, .int (nI (i + 1))), (6, .ref (ad i)), (4, .int v), (3, .int lt), (0, .ref d), (1, .int day)]) hx hb dX1_latestValue_65 hl (k := 1) rfl (nI_1 i) (by decide) rfl (fun ls hl => ?_)
        refine lv_goto (tgt := 8) hx hb dX1_latestValue_68 (by decide) ?_
        exact ih (i + 1) lt v ls hd2 (by omega) (he.trans (by simp only [lvL]; rw [if_neg (fun q => absurd q.1 (Int32.not_le.mpr c))])) (lv_sub hl [0, 2, 3, 4, 5] rfl)
      · refine lv_aload hx hb dX1_latestValue_43 (lv_at hl 0 rfl) ?_
        refine gf hx hb hts hown hE lkX1_45 (hEs i x hx0) rfl dX1_latestValue_45 ?_
        refine lv_iload_n hx hb dX1_latestValue_48 rfl (lv_at hl 3 rfl) ?_
        refine lv_icmp_lt (tgt := 65) hx hb dX1_latestValue_49 (by decide) (fun c2 => ?_) (fun c2 => ?_)
        · refine lv_iinc (v := nI (i + 1)) (lv' := [(5, .int (nI (i + 1))), (6, .ref (ad i)), (4, .int v), (3, .int lt), (0, .ref d), (1, .int day)]) hx hb dX1_latestValue_65 hl (k := 1) rfl (nI_1 i) (by decide) rfl (fun ls hl => ?_)
          refine lv_goto (tgt := 8) hx hb dX1_latestValue_68 (by decide) ?_
          exact ih (i + 1) lt v ls hd2 (by omega) (he.trans (by simp only [lvL]; rw [if_neg (fun q => absurd q.2 (Int32.not_le.mpr c2))])) (lv_sub hl [0, 2, 3, 4, 5] rfl)
        · refine lv_aload hx hb dX1_latestValue_52 (lv_at hl 0 rfl) ?_
          refine gf hx hb hts hown hE lkX1_45 (hEs i x hx0) rfl dX1_latestValue_54 ?_
          refine lv_istore_n (lv' := [(3, .int x.1), (6, .ref (ad i)), (5, .int (nI i)), (4, .int v), (0, .ref d), (1, .int day)]) hx hb dX1_latestValue_57 rfl hl (by decide) rfl (fun ls hl => ?_)
          refine lv_aload hx hb dX1_latestValue_58 (lv_at hl 1 rfl) ?_
          refine gf hx hb hts hown hE lkX1_37 (hEs i x hx0) rfl dX1_latestValue_60 ?_
          refine lv_istore (lv' := [(4, .int x.2), (3, .int x.1), (6, .ref (ad i)), (5, .int (nI i)), (0, .ref d), (1, .int day)]) hx hb dX1_latestValue_63 hl (by decide) rfl (fun ls hl => ?_)
          refine lv_iinc (v := nI (i + 1)) (lv' := [(5, .int (nI (i + 1))), (4, .int x.2), (3, .int x.1), (6, .ref (ad i)), (0, .ref d), (1, .int day)]) hx hb dX1_latestValue_65 hl (k := 3) rfl (nI_1 i) (by decide) rfl (fun ls hl => ?_)
          refine lv_goto (tgt := 8) hx hb dX1_latestValue_68 (by decide) ?_
          exact ih (i + 1) x.1 x.2 ls hd2 (by omega) (he.trans (by simp only [lvL]; rw [if_pos ⟨Int32.not_lt.mp c, Int32.not_lt.mp c2⟩])) (lv_sub hl [0, 1, 2, 4, 5] rfl)
  exact loop es 0 (-1) o ls rfl (Nat.zero_le _) rfl (lv_sub hl [0, 1, 2, 3, 4] rfl)

set_option maxRecDepth 100000 in
set_option maxHeartbeats 4000000 in
/-- Diary.sumUntil -/
theorem c_sum (E : ET) (d a : Nat) (ad : Nat → Nat) (es : Dy) (day : Int32) (H : Heap) (h : DRx E d a ad es H) : PCon E yX1_sumUntil cX1_sumUntil 5 (some FieldType.int) 4 [.ref d, .int day] H (some (.int (dSum es day))) := by
  refine PCon.of (C := RX1) rfl (by decide +kernel) (Nat.le_of_ble_eq_true rfl) ?_
  intro p e s m below meth co ls hx hb hr hlk hml hown hts hE hH hl
  have hl : lv_has ls 5 [(0, .ref d), (1, .int day)] := hl
  obtain ⟨hO, hL, hEs⟩ := h
  obtain ⟨fs0, hOa, hcl⟩ := hL.ob
  refine lv_iconst (v := 0) hx hb dX1_sumUntil_0 (by decide) ?_
  refine lv_istore_n (lv' := [(2, .int 0), (0, .ref d), (1, .int day)]) hx hb dX1_sumUntil_1 rfl hl (by decide) rfl (fun ls hl => ?_)
  refine lv_iconst (v := 0) hx hb dX1_sumUntil_2 (by decide) ?_
  refine lv_istore_n (lv' := [(3, .int 0), (2, .int 0), (0, .ref d), (1, .int day)]) hx hb dX1_sumUntil_3 rfl hl (by decide) rfl (fun ls hl => ?_)
  have loop : ∀ (xs : Dy) (i : Nat) (v : Int32) (ls : Array Slot), es.drop i = xs → i ≤ es.length → dSum es day = smL day v xs → lv_has ls 5 [(3, .int (nI i)), (2, .int v), (0, .ref d), (1, .int day)] → W p (eL E) e (rmk 4 0 0) s m ([.ref d, .int day]).toArray below meth co H [] 0 0 (MQ below (PQ (some (.int (dSum es day)))) ([.ref d, .int day]).toArray s 0 0 (fun _ => False)) (F0 m 4 ls []) := by
    intro xs
    induction xs with
    | nil =>
      intro i v ls hd hi he hl
      have hi2 := drop_n hd hi
      refine lv_iload_n hx hb dX1_sumUntil_4 rfl (lv_at hl 0 rfl) ?_
      refine lv_aload_n hx hb dX1_sumUntil_5 rfl (lv_at hl 2 rfl) ?_
      refine gf hx hb hts hown hE lkX1_12 hO rfl dX1_sumUntil_6 ?_
      refine pV hx hb hml hts hown hE kwX1_18 (c_size E a es.length ad H hL) hOa rfl (Nat.le_of_ble_eq_true rfl) rfl hl.1 rfl (Nat.le_of_ble_eq_true rfl) (Nat.le_refl _) (Nat.le_refl _) dX1_sumUntil_9 ?_
      refine lv_icmp_ge (tgt := 51) hx hb dX1_sumUntil_12 (by decide) (fun c => ?_) (fun c => ?_)
      rotate_left
      · exact absurd (nI_le (by omega) (by omega)) c
      refine lv_iload_n hx hb dX1_sumUntil_51 rfl (lv_at hl 1 rfl) ?_
      exact pI hx hb hr hlk hH (by rw [he]; rfl) dX1_sumUntil_52
    | cons x xs ih =>
      intro i v ls hd hi he hl
      obtain ⟨hx0, hlt, hd2⟩ := drop_c hd
      refine lv_iload_n hx hb dX1_sumUntil_4 rfl (lv_at hl 0 rfl) ?_
      refine lv_aload_n hx hb dX1_sumUntil_5 rfl (lv_at hl 2 rfl) ?_
      refine gf hx hb hts hown hE lkX1_12 hO rfl dX1_sumUntil_6 ?_
      refine pV hx hb hml hts hown hE kwX1_18 (c_size E a es.length ad H hL) hOa rfl (Nat.le_of_ble_eq_true rfl) rfl hl.1 rfl (Nat.le_of_ble_eq_true rfl) (Nat.le_refl _) (Nat.le_refl _) dX1_sumUntil_9 ?_
      refine lv_icmp_ge (tgt := 51) hx hb dX1_sumUntil_12 (by decide) (fun c => ?_) (fun c => ?_)
      · exact absurd c (nI_ge hlt (by omega))
      refine lv_aload_n hx hb dX1_sumUntil_15 rfl (lv_at hl 2 rfl) ?_
      refine gf hx hb hts hown hE lkX1_12 hO rfl dX1_sumUntil_16 ?_
      refine lv_iload_n hx hb dX1_sumUntil_19 rfl (lv_at hl 0 rfl) ?_
      refine pV hx hb hml hts hown hE kwX1_41 (c_get E a es.length i ad H hL hlt) hOa rfl (Nat.le_of_ble_eq_true rfl) rfl hl.1 rfl (Nat.le_of_ble_eq_true rfl) (Nat.le_refl _) (Nat.le_refl _) dX1_sumUntil_20 ?_
      refine cst hx hb hts hown hE qw1_217 (hEs i x hx0) rfl dX1_sumUntil_23 ?_
      refine lv_astore (lv' := [(4, .ref (ad i)), (3, .int (nI i)), (2, .int v), (0, .ref d), (1, .int day)]) hx hb dX1_sumUntil_26 hl (by decide) rfl (fun ls hl => ?_)
      refine lv_aload hx hb dX1_sumUntil_28 (lv_at hl 0 rfl) ?_
      refine gf hx hb hts hown hE lkX1_45 (hEs i x hx0) rfl dX1_sumUntil_30 ?_
      refine lv_iload_n hx hb dX1_sumUntil_33 rfl (lv_at hl 4 rfl) ?_
      refine lv_icmp_gt (tgt := 45) hx hb dX1_sumUntil_34 (by decide) (fun c => ?_) (fun c => ?_)
      · refine lv_iinc (v := nI (i + 1)) (lv' := [(3, .int (nI (i + 1))), (4, .ref (ad i)), (2, .int v), (0, .ref d), (1, .int day)]) hx hb dX1_sumUntil_45 hl (k := 1) rfl (nI_1 i) (by decide) rfl (fun ls hl => ?_)
        refine lv_goto (tgt := 4) hx hb dX1_sumUntil_48 (by decide) ?_
        exact ih (i + 1) v ls hd2 (by omega) (he.trans (by simp only [smL]; rw [if_neg (Int32.not_le.mpr c)])) (lv_sub hl [0, 2, 3, 4] rfl)
      · refine lv_iload_n hx hb dX1_sumUntil_37 rfl (lv_at hl 2 rfl) ?_
        refine lv_aload hx hb dX1_sumUntil_38 (lv_at hl 0 rfl) ?_
        refine gf hx hb hts hown hE lkX1_37 (hEs i x hx0) rfl dX1_sumUntil_40 ?_
        refine lv_iadd hx hb dX1_sumUntil_43 ?_
        refine lv_istore_n (lv' := [(2, .int (v + x.2)), (4, .ref (ad i)), (3, .int (nI i)), (0, .ref d), (1, .int day)]) hx hb dX1_sumUntil_44 rfl hl (by decide) rfl (fun ls hl => ?_)
        refine lv_iinc (v := nI (i + 1)) (lv' := [(3, .int (nI (i + 1))), (2, .int (v + x.2)), (4, .ref (ad i)), (0, .ref d), (1, .int day)]) hx hb dX1_sumUntil_45 hl (k := 2) rfl (nI_1 i) (by decide) rfl (fun ls hl => ?_)
        refine lv_goto (tgt := 4) hx hb dX1_sumUntil_48 (by decide) ?_
        exact ih (i + 1) (v + x.2) ls hd2 (by omega) (he.trans (by simp only [smL]; rw [if_pos (Int32.not_lt.mp c)])) (lv_sub hl [0, 1, 3, 4] rfl)
  exact loop es 0 0 ls rfl (Nat.zero_le _) rfl (lv_sub hl [0, 1, 2, 3] rfl)
