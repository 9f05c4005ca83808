set_option maxRecDepth 100000 in
set_option maxHeartbeats 4000000 in
/-- AbstractCollection() -/
theorem c_aci (E : ET) (a : Nat) (H : Heap) : Con E yJxa1e45_init_da8c8 cJxa1e45_init_da8c8 1 (none : Option FieldType) 1 0 0 [.ref a] H (o1 none (fun H' => H' = H)) := by
  refine Con.of (C := RJxa1e45) rfl (by decide +kernel) (Nat.le_of_ble_eq_true rfl) ?_
  intro p e s m below meth co ls hx hb hr hlk hml hown hts hin hE hH hS hl
  have hl : lv_has ls 1 [(0, .ref a)] := hl
  have hB : eB E ≤ s.heap.size := by rw [hH]; exact hE.2.1
  refine lv_aload_n hx hb dJxa1e45_init_da8c8_0 rfl (lv_at hl 0 rfl) ?_
  refine oI hx hb hml hts hown qw1_52 qw1_27 qw1_28 (Nat.le_of_ble_eq_true rfl) hl.1 (Nat.le_of_ble_eq_true rfl) dJxa1e45_init_da8c8_1 ?_
  exact cU hx hb hr hlk hB hS (by omega) (by omega) (⟨rfl, rfl⟩) dJxa1e45_init_da8c8_4

set_option maxRecDepth 100000 in
set_option maxHeartbeats 4000000 in
/-- AbstractList() -/
theorem c_ali (E : ET) (a : Nat) (v1 v2 : Value) (mo : Int32) (H : Heap) (hO : OB E 0 [.int mo, v1, v2] a H) (hg : eB E ≤ a) : Con E yJxc12de_init_da8c8 cJxc12de_init_da8c8 1 (none : Option FieldType) 2 0 0 [.ref a] H (o1 none (fun H' => OB E 0 [.int 0, v1, v2] a H' ∧ FR (fun q => q = a) H H' ∧ H'.size = H.size)) := by
  refine Con.of (C := RJxc12de) rfl (by decide +kernel) (Nat.le_of_ble_eq_true rfl) ?_
  intro p e s m below meth co ls hx hb hr hlk hml hown hts hin hE hH hS hl
  have hl : lv_has ls 1 [(0, .ref a)] := hl
  have hB : eB E ≤ s.heap.size := by rw [hH]; exact hE.2.1
  refine lv_aload_n hx hb dJxc12de_init_da8c8_0 rfl (lv_at hl 0 rfl) ?_
  refine gI hx hb hml hts hown hB hE hS kwJxc12de_1 (c_aci E a H) (Nat.le_of_ble_eq_true rfl) rfl hl.1 rfl (Nat.le_of_ble_eq_true rfl) (by omega) (by omega) dJxc12de_init_da8c8_1 (fun H1 L1 hG hz1 hE hS => ?_)
  have hG := hG.symm
  subst hG
  refine lv_aload_n hx hb dJxc12de_init_da8c8_4 rfl (lv_at hl 0 rfl) ?_
  refine lv_iconst (v := 0) hx hb dJxc12de_init_da8c8_5 (by decide) ?_
  have hF : FR (fun q => q = a) H H := FR.rf
  refine pf hx hb hts hown hE hS pkJxc12de_7 rfl hO hg rfl rfl (Nat.le_of_ble_eq_true rfl) dJxc12de_init_da8c8_6 (fun H2 L2 hO2 hz2 hq2 hE hS => ?_)
  have hO : OB E 0 [.int 0, v1, v2] a H2 := hO2
  have hF := hF.put hz2 hq2 (fun _ => rfl)
  exact cU hx hb hr hlk hB hS (by omega) (by omega) (⟨rfl, hO, hF, by omega⟩) dJxc12de_init_da8c8_9

set_option maxRecDepth 100000 in
set_option maxHeartbeats 4000000 in
/-- ArrayList() -/
theorem c_lini (E : ET) (a : Nat) (v1 : Value) (mo : Int32) (H : Heap) (hO : OB E 0 [.int mo, v1, .int 0] a H) (hg : eB E ≤ a) : Con E yJx4a65c_init_da8c8 cJx4a65c_init_da8c8 1 (none : Option FieldType) 3 0 0 [.ref a] H (o1 none (fun H' => OB E 0 [.int 0, .ref (eF E), .int (nI 0)] a H' ∧ FR (fun q => q = a) H H' ∧ H'.size = H.size)) := by
  refine Con.of (C := RJx4a65c) rfl (by decide +kernel) (Nat.le_of_ble_eq_true rfl) ?_
  intro p e s m below meth co ls hx hb hr hlk hml hown hts hin hE hH hS hl
  have hl : lv_has ls 1 [(0, .ref a)] := hl
  have hE0 := hE.2.2.2.2.1
  have hB : eB E ≤ s.heap.size := by rw [hH]; exact hE.2.1
  refine lv_aload_n hx hb dJx4a65c_init_da8c8_0 rfl (lv_at hl 0 rfl) ?_
  refine gI hx hb hml hts hown hB hE hS kwJx4a65c_1 (c_ali E a v1 (.int 0) mo H hO hg) (Nat.le_of_ble_eq_true rfl) rfl hl.1 rfl (Nat.le_of_ble_eq_true rfl) (by omega) (by omega) dJx4a65c_init_da8c8_1 (fun H1 L1 hG hz1 hE hS => ?_)
  obtain ⟨hO, hF, hz9⟩ := hG
  refine lv_aload_n hx hb dJx4a65c_init_da8c8_4 rfl (lv_at hl 0 rfl) ?_
  refine va_gets hx hb (by rw [hH]; exact hE0) hS hown (hts _ qw1_53) (fun _ h => h) dJx4a65c_init_da8c8_5 ?_
  refine pf hx hb hts hown hE hS pkJx4a65c_9 rfl hO hg rfl rfl (Nat.le_of_ble_eq_true rfl) dJx4a65c_init_da8c8_8 (fun H2 L2 hO2 hz2 hq2 hE hS => ?_)
  have hO : OB E 0 [.int 0, .ref (eF E), .int 0] a H2 := hO2
  have hF := hF.put hz2 hq2 (fun _ => rfl)
  exact cU hx hb hr hlk hB hS (by omega) (by omega) (⟨rfl, hO, hF, by omega⟩) dJx4a65c_init_da8c8_11

set_option maxRecDepth 100000 in
set_option maxHeartbeats 4000000 in
/-- Entry() -/
theorem c_eini (E : ET) (a : Nat) (d v d0 v0 : Int32) (H : Heap) (hO : OB E 3 [.int d0, .int v0] a H) (hg : eB E ≤ a) : Con E yX2_init cX2_init 3 (none : Option FieldType) 1 0 0 [.ref a, .int d, .int v] H (o1 none (fun H' => OB E 3 [.int d, .int v] a H' ∧ FR (fun q => q = a) H H' ∧ H'.size = H.size)) := by
  refine Con.of (C := RX2) rfl (by decide +kernel) (Nat.le_of_ble_eq_true rfl) ?_
  intro p e s m below meth co ls hx hb hr hlk hml hown hts hin hE hH hS hl
  have hl : lv_has ls 3 [(0, .ref a), (1, .int d), (2, .int v)] := hl
  have hB : eB E ≤ s.heap.size := by rw [hH]; exact hE.2.1
  refine lv_aload_n hx hb dX2_init_0 rfl (lv_at hl 0 rfl) ?_
  refine oI hx hb hml hts hown qw2_2 qw1_27 qw1_28 (Nat.le_of_ble_eq_true rfl) hl.1 (Nat.le_of_ble_eq_true rfl) dX2_init_1 ?_
  refine lv_aload_n hx hb dX2_init_4 rfl (lv_at hl 0 rfl) ?_
  refine lv_iload_n hx hb dX2_init_5 rfl (lv_at hl 1 rfl) ?_
  have hF : FR (fun q => q = a) H H := FR.rf
  refine pfF hx hb hts hown hin hE hS pkX2_7 rfl rfl hO hg rfl rfl (Nat.le_of_ble_eq_true rfl) dX2_init_6 (fun H1 L1 hO1 hz1 hq1 hE hS => ?_)
  have hO : OB E 3 [.int d, .int v0] a H1 := hO1
  have hF := hF.put hz1 hq1 (fun _ => rfl)
  refine lv_aload_n hx hb dX2_init_9 rfl (lv_at hl 0 rfl) ?_
  refine lv_iload_n hx hb dX2_init_10 rfl (lv_at hl 2 rfl) ?_
  refine pf hx hb hts hown hE hS pkX2_13 rfl hO hg rfl rfl (Nat.le_of_ble_eq_true rfl) dX2_init_11 (fun H2 L2 hO2 hz2 hq2 hE hS => ?_)
  have hO : OB E 3 [.int d, .int v] a H2 := hO2
  have hF := hF.put hz2 hq2 (fun _ => rfl)
  exact cU hx hb hr hlk hB hS (by omega) (by omega) (⟨rfl, hO, hF, by omega⟩) dX2_init_14

set_option maxRecDepth 100000 in
set_option maxHeartbeats 4000000 in
/-- Diary() -/
theorem c_dini (E : ET) (a : Nat) (v1 : Value) (H : Heap) (hO : OB E 2 [v1] a H) (hg : eB E ≤ a) : Con E yX1_init cX1_init 1 (none : Option FieldType) 4 1 3 [.ref a] H (o1 none (fun H' => OB E 2 [.ref H.size] a H' ∧ OB E 0 [.int 0, .ref (eF E), .int (nI 0)] H.size H' ∧ FR (fun q => q = a) H H' ∧ H'.size = H.size + 1)) := by
  refine Con.of (C := RX1) rfl (by decide +kernel) (Nat.le_of_ble_eq_true rfl) ?_
  intro p e s m below meth co ls hx hb hr hlk hml hown hts hin hE hH hS hl
  have hl : lv_has ls 1 [(0, .ref a)] := hl
  have hB : eB E ≤ s.heap.size := by rw [hH]; exact hE.2.1
  have hal := plt hO
  refine lv_aload_n hx hb dX1_init_0 rfl (lv_at hl 0 rfl) ?_
  refine oI hx hb hml hts hown qw1_40 qw1_27 qw1_28 (Nat.le_of_ble_eq_true rfl) hl.1 (Nat.le_of_ble_eq_true rfl) dX1_init_1 ?_
  refine lv_aload_n hx hb dX1_init_4 rfl (lv_at hl 0 rfl) ?_
  have hF : FR (fun q => q = a) H H := FR.rf
  refine nw (fs := [.int 0, .null, .int 0]) hx hb hts hown hE hS nkX1_9 (fun j hj => by rcases (show j = 0 ∨ j = 1 ∨ j = 2 by omega) with rfl | rfl | rfl <;> rfl) (by omega) (by omega) dX1_init_5 (fun q H1 ea1 hN hz1 hq1 hE hS hg1 => ?_)
  have hO := pk3 hO hq1
  have hF := hF.new (by omega) hq1
  refine lv_dup hx hb dX1_init_8 rfl ?_
  refine gI hx hb hml hts hown hB hE hS kwX1_11 (c_lini E q .null 0 H1 hN hg1) (Nat.le_of_ble_eq_true rfl) rfl hl.1 rfl (Nat.le_of_ble_eq_true rfl) (by omega) (by omega) dX1_init_9 (fun H2 L2 hG hz2 hE hS => ?_)
  obtain ⟨hN, hG2, hz9⟩ := hG
  have hO := hG2.at hO (by omega)
  have hF := hF.tr hG2 (fun z hz h => by omega)
  refine pfF hx hb hts hown hin hE hS pkX1_12 rfl rfl hO hg rfl rfl (Nat.le_of_ble_eq_true rfl) dX1_init_12 (fun H3 L3 hO3 hz3 hq3 hE hS => ?_)
  have hO : OB E 2 [.ref q] a H3 := hO3
  have hN := pk2 hN hq3 (by omega)
  have hF := hF.put hz3 hq3 (fun _ => rfl)
  exact cU hx hb hr hlk hB hS (by omega) (by omega) (⟨rfl, by rw [← ea1]; exact hO, by rw [← ea1]; exact hN, hF, by omega⟩) dX1_init_15
