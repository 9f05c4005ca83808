set_option maxRecDepth 100000 in
set_option maxHeartbeats 4000000 in
/-- Calendar.opensOn -/
theorem c_opensOn (E : ET) (q d : Nat) (h0 h1 : Dy) (H : Heap) (hd : d < 2 ^ 31) (h : CR E q h0 h1 H) : PCon E yX0_opensOn cX0_opensOn 2 (some FieldType.boolean) 6 [.ref q, .int (nI d)] H (some (.int (if opn h0 h1 d then 1 else 0))) := by
  refine PCon.of (C := RX0) rfl (by decide +kernel) (Nat.le_of_ble_eq_true rfl) ?_
  intro p e s m below meth co ls hx hb hr hlk hml hown hts hE hH hl
  have hl : lv_has ls 2 [(0, .ref q), (1, .int (nI d))] := hl
  obtain ⟨d0, d1, hO, ⟨a0, ad0, hd0⟩, ⟨a1, ad1, hd1⟩⟩ := h
  refine lv_iload_n hx hb dX0_opensOn_0 rfl (lv_at hl 1 rfl) ?_
  refine lv_bipush (v := 7) hx hb dX0_opensOn_1 (by decide) ?_
  refine pS hx hb hml hts hown hE kwX0_21 (c_fmod E d H hd) (Nat.le_of_ble_eq_true rfl) rfl hl.1 rfl (Nat.le_of_ble_eq_true rfl) (Nat.le_refl _) (Nat.le_refl _) dX0_opensOn_3 ?_
  refine lv_iconst (v := 5) hx hb dX0_opensOn_6 (by decide) ?_
  refine lv_icmp_ge (tgt := 36) hx hb dX0_opensOn_7 (by decide) (fun c => ?_) (fun c => ?_)
  · refine lv_iconst (v := 0) hx hb dX0_opensOn_36 (by decide) ?_
    exact pZ hx hb hr hlk hH (by rw [opn, decide_eq_false (fun q => absurd ((nI_leI (a := 5) (b := d % 7) (by decide) (by omega)).mp c) (by omega))]; rfl) dX0_opensOn_37
  · have c5 : d % 7 < 5 := by
      rcases Nat.lt_or_ge (d % 7) 5 with q | q
      · exact q
      · exact absurd ((nI_leI (a := 5) (b := d % 7) (by decide) (by omega)).mpr q) c
    refine lv_aload_n hx hb dX0_opensOn_10 rfl (lv_at hl 0 rfl) ?_
    refine gf hx hb hts hown hE lkX0_12 hO rfl dX0_opensOn_11 ?_
    refine lv_iload_n hx hb dX0_opensOn_14 rfl (lv_at hl 1 rfl) ?_
    have hM := c_has E d0 a0 ad0 h0 (nI d) H hd0
    refine pV hx hb hml hts hown hE kwX0_27 hM hd0.1 rfl (Nat.le_of_ble_eq_true rfl) rfl hl.1 rfl (Nat.le_of_ble_eq_true rfl) (Nat.le_refl _) (Nat.le_refl _) dX0_opensOn_15 ?_
    cases x0 : dHas h0 (nI d) with
    | true =>
      refine lv_if_ne (tgt := 36) hx hb dX0_opensOn_18 (by decide) (fun c2 => ?_) (fun c2 => ?_)
      rotate_left
      · exact absurd c2 (by decide)
      refine lv_iconst (v := 0) hx hb dX0_opensOn_36 (by decide) ?_
      exact pZ hx hb hr hlk hH (by simp [opn, x0]) dX0_opensOn_37
    | false =>
      refine lv_if_ne (tgt := 36) hx hb dX0_opensOn_18 (by decide) (fun c2 => ?_) (fun c2 => ?_)
      · exact absurd (by decide) c2
      refine lv_aload_n hx hb dX0_opensOn_21 rfl (lv_at hl 0 rfl) ?_
      refine gf hx hb hts hown hE lkX0_18 hO rfl dX0_opensOn_22 ?_
      refine lv_iload_n hx hb dX0_opensOn_25 rfl (lv_at hl 1 rfl) ?_
      have hM2 := c_has E d1 a1 ad1 h1 (nI d) H hd1
      refine pV hx hb hml hts hown hE kwX0_27 hM2 hd1.1 rfl (Nat.le_of_ble_eq_true rfl) rfl hl.1 rfl (Nat.le_of_ble_eq_true rfl) (Nat.le_refl _) (Nat.le_refl _) dX0_opensOn_26 ?_
      cases x1 : dHas h1 (nI d) with
      | true =>
        refine lv_if_ne (tgt := 36) hx hb dX0_opensOn_29 (by decide) (fun c3 => ?_) (fun c3 => ?_)
        rotate_left
        · exact absurd c3 (by decide)
        refine lv_iconst (v := 0) hx hb dX0_opensOn_36 (by decide) ?_
        exact pZ hx hb hr hlk hH (by simp [opn, x1]) dX0_opensOn_37
      | false =>
        refine lv_if_ne (tgt := 36) hx hb dX0_opensOn_29 (by decide) (fun c3 => ?_) (fun c3 => ?_)
        · exact absurd (by decide) c3
        refine lv_iconst (v := 1) hx hb dX0_opensOn_32 (by decide) ?_
        refine lv_goto (tgt := 37) hx hb dX0_opensOn_33 (by decide) ?_
        exact pZ hx hb hr hlk hH (by simp [opn, x0, x1, c5]) dX0_opensOn_37

set_option maxRecDepth 100000 in
set_option maxHeartbeats 4000000 in
/-- Calendar.rolledDayOf -/
theorem c_rol (E : ET) (q d : Nat) (h0 h1 : Dy) (H : Heap) (hd : d < 2 ^ 30) (h : CR E q h0 h1 H) : PCon E yX0_rolledDayOf cX0_rolledDayOf 4 (some FieldType.int) 7 [.ref q, .int (nI d)] H (some (.int (nI (rol h0 h1 d)))) := by
  refine PCon.of (C := RX0) rfl (by decide +kernel) (Nat.le_of_ble_eq_true rfl) ?_
  intro p e s m below meth co ls hx hb hr hlk hml hown hts hE hH hl
  have hl : lv_has ls 4 [(0, .ref q), (1, .int (nI d))] := hl
  have hO := h
  obtain ⟨d0, d1, hO, hd0, hd1⟩ := hO
  refine lv_iload_n hx hb dX0_rolledDayOf_0 rfl (lv_at hl 1 rfl) ?_
  refine lv_istore_n (lv' := [(2, .int (nI d)), (0, .ref q), (1, .int (nI d))]) hx hb dX0_rolledDayOf_1 rfl hl (by decide) rfl (fun ls hl => ?_)
  refine lv_iconst (v := 0) hx hb dX0_rolledDayOf_2 (by decide) ?_
  refine lv_istore_n (lv' := [(3, .int 0), (2, .int (nI d)), (0, .ref q), (1, .int (nI d))]) hx hb dX0_rolledDayOf_3 rfl hl (by decide) rfl (fun ls hl => ?_)
  have loop : ∀ (n i r : Nat) (ls : Array Slot), i + n = 1000 → r = d + i → rol h0 h1 d = rolF h0 h1 n r → lv_has ls 4 [(3, .int (nI i)), (2, .int (nI r)), (0, .ref q), (1, .int (nI d))] → W p (eL E) e (rmk 7 0 0) s m ([.ref q, .int (nI d)]).toArray below meth co H [] 0 0 (MQ below (PQ (some (.int (nI (rol h0 h1 d))))) ([.ref q, .int (nI d)]).toArray s 0 0 (fun _ => False)) (F0 m 4 ls []) := by
    intro n
    induction n with
    | zero =>
      intro i r ls hi hr2 he hl
      have hi2 : i = 1000 := by omega
      subst hi2
      refine lv_iload_n hx hb dX0_rolledDayOf_4 rfl (lv_at hl 0 rfl) ?_
      refine lv_sipush (v := 1000) hx hb dX0_rolledDayOf_5 (by decide) ?_
      refine lv_icmp_ge (tgt := 28) hx hb dX0_rolledDayOf_8 (by decide) (fun c => ?_) (fun c => ?_)
      rotate_left
      · exact absurd (nI_le (a := 1000) (b := 1000) (by decide) (by decide)) c
      refine lv_iload_n hx hb dX0_rolledDayOf_28 rfl (lv_at hl 1 rfl) ?_
      exact pI hx hb hr hlk hH (by rw [he]; rfl) dX0_rolledDayOf_29
    | succ n ih =>
      intro i r ls hi hr2 he hl
      refine lv_iload_n hx hb dX0_rolledDayOf_4 rfl (lv_at hl 0 rfl) ?_
      refine lv_sipush (v := 1000) hx hb dX0_rolledDayOf_5 (by decide) ?_
      refine lv_icmp_ge (tgt := 28) hx hb dX0_rolledDayOf_8 (by decide) (fun c => ?_) (fun c => ?_)
      · exact absurd c (nI_ge (b := 1000) (by omega) (by decide))
      refine lv_aload_n hx hb dX0_rolledDayOf_11 rfl (lv_at hl 2 rfl) ?_
      refine lv_iload_n hx hb dX0_rolledDayOf_12 rfl (lv_at hl 1 rfl) ?_
      refine pV hx hb hml hts hown hE kwX0_31 (c_opensOn E q r h0 h1 H (by omega) h) hO rfl (Nat.le_of_ble_eq_true rfl) rfl hl.1 rfl (Nat.le_of_ble_eq_true rfl) (Nat.le_refl _) (Nat.le_refl _) dX0_rolledDayOf_13 ?_
      cases x0 : opn h0 h1 r with
      | true =>
        refine lv_if_ne (tgt := 28) hx hb dX0_rolledDayOf_16 (by decide) (fun c3 => ?_) (fun c3 => ?_)
        rotate_left
        · exact absurd c3 (by decide)
        refine lv_iload_n hx hb dX0_rolledDayOf_28 rfl (lv_at hl 1 rfl) ?_
        exact pI hx hb hr hlk hH (by rw [he]; simp [rolF, x0]) dX0_rolledDayOf_29
      | false =>
        refine lv_if_ne (tgt := 28) hx hb dX0_rolledDayOf_16 (by decide) (fun c3 => ?_) (fun c3 => ?_)
        · exact absurd (by decide) c3
        refine lv_iinc (v := nI (r + 1)) (lv' := [(2, .int (nI (r + 1))), (3, .int (nI i)), (0, .ref q), (1, .int (nI d))]) hx hb dX0_rolledDayOf_19 hl (k := 1) rfl (nI_1 r) (by decide) rfl (fun ls hl => ?_)
        refine lv_iinc (v := nI (i + 1)) (lv' := [(3, .int (nI (i + 1))), (2, .int (nI (r + 1))), (0, .ref q), (1, .int (nI d))]) hx hb dX0_rolledDayOf_22 hl (k := 1) rfl (nI_1 i) (by decide) rfl (fun ls hl => ?_)
        refine lv_goto (tgt := 4) hx hb dX0_rolledDayOf_25 (by decide) ?_
        exact ih (i + 1) (r + 1) ls (by omega) (by omega) (he.trans (by simp [rolF, x0])) (lv_sub hl [0, 1, 2, 3] rfl)
  exact loop 1000 0 d ls rfl rfl rfl (lv_sub hl [0, 1, 2, 3] rfl)
