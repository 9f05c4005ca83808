set_option maxRecDepth 100000 in
set_option maxHeartbeats 4000000 in
/-- Preconditions.checkIndex -/
theorem c_chk3 (E : ET) (i c : Nat) (H : Heap) (hi : i < c) (hc : c < 2 ^ 31) : PCon E yJ3_checkIndex_8e157 cJ3_checkIndex_8e157 3 (some FieldType.int) 1 [.int (nI i), .int (nI c), .null] H (some (.int (nI i))) := by
  refine PCon.of (C := RJ3) rfl (by decide +kernel) (Nat.le_of_ble_eq_true rfl) ?_
  intro p e s m below meth co ls hx hb hr hlk hml hown hts hE hH hl
  have hl : lv_has ls 3 [(0, .int (nI i)), (1, .int (nI c)), (2, .null)] := hl
  refine lv_iload_n hx hb dJ3_checkIndex_8e157_0 rfl (lv_at hl 0 rfl) ?_
  refine lv_if_lt (tgt := 9) hx hb dJ3_checkIndex_8e157_1 (by decide) (fun c => ?_) (fun c => ?_)
  · exact absurd c (nI_pos (by omega))
  refine lv_iload_n hx hb dJ3_checkIndex_8e157_4 rfl (lv_at hl 0 rfl) ?_
  refine lv_iload_n hx hb dJ3_checkIndex_8e157_5 rfl (lv_at hl 1 rfl) ?_
  refine lv_icmp_lt (tgt := 16) hx hb dJ3_checkIndex_8e157_6 (by decide) (fun c => ?_) (fun c => ?_)
  rotate_left
  · exact absurd (nI_lt hi (by omega)) c
  refine lv_iload_n hx hb dJ3_checkIndex_8e157_16 rfl (lv_at hl 0 rfl) ?_
  exact pI hx hb hr hlk hH rfl dJ3_checkIndex_8e157_17

set_option maxRecDepth 100000 in
set_option maxHeartbeats 4000000 in
/-- Objects.checkIndex -/
theorem c_chk15 (E : ET) (i c : Nat) (H : Heap) (hi : i < c) (hc : c < 2 ^ 31) : PCon E yJ15_checkIndex_7cf53 cJ15_checkIndex_7cf53 2 (some FieldType.int) 2 [.int (nI i), .int (nI c)] H (some (.int (nI i))) := by
  refine PCon.of (C := RJ15) rfl (by decide +kernel) (Nat.le_of_ble_eq_true rfl) ?_
  intro p e s m below meth co ls hx hb hr hlk hml hown hts hE hH hl
  have hl : lv_has ls 2 [(0, .int (nI i)), (1, .int (nI c))] := hl
  refine lv_iload_n hx hb dJ15_checkIndex_7cf53_0 rfl (lv_at hl 0 rfl) ?_
  refine lv_iload_n hx hb dJ15_checkIndex_7cf53_1 rfl (lv_at hl 1 rfl) ?_
  refine lv_null hx hb dJ15_checkIndex_7cf53_2 ?_
  refine pS hx hb hml hts hown hE kwJ15_105 (c_chk3 E i c H hi hc) (Nat.le_of_ble_eq_true rfl) rfl hl.1 rfl (Nat.le_of_ble_eq_true rfl) (Nat.le_refl _) (Nat.le_refl _) dJ15_checkIndex_7cf53_3 ?_
  exact pI hx hb hr hlk hH rfl dJ15_checkIndex_7cf53_6

set_option maxRecDepth 100000 in
set_option maxHeartbeats 4000000 in
/-- ArrayList.size -/
theorem c_size (E : ET) (a c : Nat) (ad : Nat → Nat) (H : Heap) (h : LR E a c ad H) : PCon E yJx4a65c_size_8abf5 cJx4a65c_size_8abf5 1 (some FieldType.int) 1 [.ref a] H (some (.int (nI c))) := by
  refine PCon.of (C := RJx4a65c) rfl (by decide +kernel) (Nat.le_of_ble_eq_true rfl) ?_
  intro p e s m below meth co ls hx hb hr hlk hml hown hts hE hH hl
  have hl : lv_has ls 1 [(0, .ref a)] := hl
  obtain ⟨mo, arr, n, f, hO, hA, hc, hn, hf⟩ := h
  refine lv_aload_n hx hb dJx4a65c_size_8abf5_0 rfl (lv_at hl 0 rfl) ?_
  refine gf hx hb hts hown hE lkJx4a65c_48 hO rfl dJx4a65c_size_8abf5_1 ?_
  exact pI hx hb hr hlk hH rfl dJx4a65c_size_8abf5_4

set_option maxRecDepth 100000 in
set_option maxHeartbeats 4000000 in
/-- ArrayList.elementData -/
theorem c_elt (E : ET) (a c i : Nat) (ad : Nat → Nat) (H : Heap) (h : LR E a c ad H) (hi : i < c) : PCon E yJx4a65c_elementData_915e3 cJx4a65c_elementData_915e3 2 (some (FieldType.object "java/lang/Object")) 1 [.ref a, .int (nI i)] H (some (.ref (ad i))) := by
  refine PCon.of (C := RJx4a65c) rfl (by decide +kernel) (Nat.le_of_ble_eq_true rfl) ?_
  intro p e s m below meth co ls hx hb hr hlk hml hown hts hE hH hl
  have hl : lv_has ls 2 [(0, .ref a), (1, .int (nI i))] := hl
  obtain ⟨mo, arr, n, f, hO, hA, hc, hn, hf⟩ := h
  have hA := hA.qa (by omega)
  refine lv_aload_n hx hb dJx4a65c_elementData_915e3_0 rfl (lv_at hl 0 rfl) ?_
  refine gf hx hb hts hown hE lkJx4a65c_9 hO rfl dJx4a65c_elementData_915e3_1 ?_
  refine lv_iload_n hx hb dJx4a65c_elementData_915e3_4 rfl (lv_at hl 1 rfl) ?_
  refine aQ hx hb hE hA rfl (by omega) hn (hf i hi) dJx4a65c_elementData_915e3_5 ?_
  exact pA hx hb hr (Or.inl ⟨_, rfl⟩) (Or.inr ⟨_, rfl⟩) hlk hH rfl dJx4a65c_elementData_915e3_6

set_option maxRecDepth 100000 in
set_option maxHeartbeats 4000000 in
/-- ArrayList.get -/
theorem c_get (E : ET) (a c i : Nat) (ad : Nat → Nat) (H : Heap) (h : LR E a c ad H) (hi : i < c) : PCon E yJx4a65c_get_915e3 cJx4a65c_get_915e3 2 (some (FieldType.object "java/lang/Object")) 3 [.ref a, .int (nI i)] H (some (.ref (ad i))) := by
  refine PCon.of (C := RJx4a65c) rfl (by decide +kernel) (Nat.le_of_ble_eq_true rfl) ?_
  intro p e s m below meth co ls hx hb hr hlk hml hown hts hE hH hl
  have hl : lv_has ls 2 [(0, .ref a), (1, .int (nI i))] := hl
  have hh := h
  obtain ⟨mo, arr, n, f, hO, hA, hc, hn, hf⟩ := h
  refine lv_iload_n hx hb dJx4a65c_get_915e3_0 rfl (lv_at hl 1 rfl) ?_
  refine lv_aload_n hx hb dJx4a65c_get_915e3_1 rfl (lv_at hl 0 rfl) ?_
  refine gf hx hb hts hown hE lkJx4a65c_48 hO rfl dJx4a65c_get_915e3_2 ?_
  refine pS hx hb hml hts hown hE kwJx4a65c_118 (c_chk15 E i c H hi (by omega)) (Nat.le_of_ble_eq_true rfl) rfl hl.1 rfl (Nat.le_of_ble_eq_true rfl) (Nat.le_refl _) (Nat.le_refl _) dJx4a65c_get_915e3_5 ?_
  refine lv_pop hx hb dJx4a65c_get_915e3_8 rfl ?_
  refine lv_aload_n hx hb dJx4a65c_get_915e3_9 rfl (lv_at hl 0 rfl) ?_
  refine lv_iload_n hx hb dJx4a65c_get_915e3_10 rfl (lv_at hl 1 rfl) ?_
  refine pV hx hb hml hts hown hE kwJx4a65c_123 (c_elt E a c i ad H hh hi) hO rfl (Nat.le_of_ble_eq_true rfl) rfl hl.1 rfl (Nat.le_of_ble_eq_true rfl) (Nat.le_refl _) (Nat.le_refl _) dJx4a65c_get_915e3_11 ?_
  exact pA hx hb hr (Or.inl ⟨_, rfl⟩) (Or.inr ⟨_, rfl⟩) hlk hH rfl dJx4a65c_get_915e3_14
