def adI (h k : Nat) : Nat := h + (if k ≤ 4 then k - 1 else if k ≤ 16 then k - 3 else k - 4)
def kI (p : Nat) : Nat := if p ≤ 3 then p + 1 else if p ≤ 13 then p + 3 else p + 4
theorem MI.nil : MI (fun _ => 0) (fun _ _ => 0) [] [] [] [] [] := by
  refine ⟨fun d _ => ⟨rfl, rfl⟩, ⟨rfl, rfl⟩, fun d _ => ⟨rfl, fun v hv => absurd hv List.not_mem_nil⟩, rfl, rfl, fun t tr ht => by simp at ht, fun t _ _ => ⟨rfl, rfl, rfl, rfl⟩, ⟨rfl, Nat.zero_le _⟩, fun k e he => by simp at he, fun t tr ht => by simp at ht, fun e he => absurd he List.not_mem_nil, fun t tr ht => by simp at ht⟩
theorem lab9 {E : ET} {ow : Nat → Nat × Nat} {h k : Nat} (hg : eB E ≤ h) (p : Nat) (e1 : adI h k = h + p) (e2 : kI p = k) : (if adI h k < h then ow (adI h k) else (4, kI (adI h k - h))) = (4, k) ∧ eB E ≤ adI h k := by
  rw [e1, if_neg (by omega), Nat.add_sub_cancel_left, e2]
  exact ⟨rfl, by omega⟩
set_option maxRecDepth 100000 in
set_option maxHeartbeats 4000000 in
/-- Model() -/
theorem c_minit (E : ET) (ow : Nat → Nat × Nat) (x : Nat) (H : Heap) (hO : OB E 6 [.int 0, .null, .null, .null, .null, .int 0, .int 0, .null, .null, .null, .null, .null, .null, .null, .null, .null, .null, .int 0, .null, .null, .null, .null, .null, .null] x H) (hg : eB E ≤ x) (how : ow x = (4, 0)) : Con E yX5_init cX5_init 1 (none : Option FieldType) 4 20 42316 [.ref x] H (o1 none (fun H' => ∃ ow' : Nat → Nat × Nat, (∀ q, q < H.size → ow' q = ow q) ∧ (∀ q, H.size ≤ q → (ow' q).1 = 4 ∧ (q < H.size + 20 → (ow' q).2 ≤ 23)) ∧ MW E ow' x [] [] [] [] [] 0 H' ∧ FR (fun z => z = x) H H' ∧ H'.size = H.size + 20)) := by
  refine Con.of (C := RX5) rfl (by decide +kernel) (Nat.le_of_ble_eq_true rfl) ?_
  intro p e s m below meth co ls hx hb hr hlk hml hown hts hin hE hH hS hl
  have hl : lv_has ls 1 [(0, .ref x)] := hl
  have hB : eB E ≤ s.heap.size := by rw [hH]; exact hE.2.1
  have hwl := plt hO
  refine lv_aload_n hx hb dX5_init_0 rfl (lv_at hl 0 rfl) ?_
  refine oI hx hb hml hts hown qw3_164 qw1_28 qw1_29 (Nat.le_of_ble_eq_true rfl) hl.1 (Nat.le_of_ble_eq_true rfl) dX5_init_1 ?_
  refine lv_aload_n hx hb dX5_init_4 rfl (lv_at hl 0 rfl) ?_
  refine lv_sipush (v := 6002) hx hb dX5_init_5 (by decide) ?_
  have hF : FR (fun z => z = x) H H := FR.rf
  refine naZ (N' := 6002) hx hb hts hE hS qw3_238 rfl (by omega) (by omega) (by omega) dX5_init_8 (fun b0 H1 ea1 hA0 hz1 hq1 hE hS hg1 => ?_)
  have hO := pk3 hO hq1
  have hF := hF.new (by omega) hq1
  have eb0 : b0 = H.size + 0 := by omega
  refine pfF hx hb hts hown hin hE hS pkX5_7 rfl rfl hO hg rfl rfl (Nat.le_of_ble_eq_true rfl) dX5_init_10 (fun H2 L2 hO2 hz2 hq2 hE hS => ?_)
  have hO : OB E 6 [.int 0, .ref b0, .null, .null, .null, .int 0, .int 0, .null, .null, .null, .null, .null, .null, .null, .null, .null, .null, .int 0, .null, .null, .null, .null, .null, .null] x H2 := hO2
  have hA0 := pk2 hA0 hq2 (by omega)
  have hF := hF.put hz2 hq2 (fun _ => rfl)
  refine lv_aload_n hx hb dX5_init_13 rfl (lv_at hl 0 rfl) ?_
  refine lv_iconst (v := 2) hx hb dX5_init_14 (by decide) ?_
  refine naI (N' := 2) hx hb hts hE hS qw2_208 rfl (by omega) (by omega) (by omega) dX5_init_15 (fun b1 H3 ea3 hA1 hz3 hq3 hE hS hg3 => ?_)
  have hO := pk3 hO hq3
  have hA0 := pk3 hA0 hq3
  have hF := hF.new (by omega) hq3
  have eb1 : b1 = H.size + 1 := by omega
  refine pfF hx hb hts hown hin hE hS pkX5_13 rfl rfl hO hg rfl rfl (Nat.le_of_ble_eq_true rfl) dX5_init_17 (fun H4 L4 hO4 hz4 hq4 hE hS => ?_)
  have hO : OB E 6 [.int 0, .ref b0, .ref b1, .null, .null, .int 0, .int 0, .null, .null, .null, .null, .null, .null, .null, .null, .null, .null, .int 0, .null, .null, .null, .null, .null, .null] x H4 := hO4
  have hA0 := pk2 hA0 hq4 (by omega)
  have hA1 := pk2 hA1 hq4 (by omega)
  have hF := hF.put hz4 hq4 (fun _ => rfl)
  refine lv_aload_n hx hb dX5_init_20 rfl (lv_at hl 0 rfl) ?_
  refine lv_sipush (v := 3001) hx hb dX5_init_21 (by decide) ?_
  refine naZ (N' := 3001) hx hb hts hE hS qw3_238 rfl (by omega) (by omega) (by omega) dX5_init_24 (fun b2 H5 ea5 hA2 hz5 hq5 hE hS hg5 => ?_)
  have hO := pk3 hO hq5
  have hA0 := pk3 hA0 hq5
  have hA1 := pk3 hA1 hq5
  have hF := hF.new (by omega) hq5
  have eb2 : b2 = H.size + 2 := by omega
  refine pfF hx hb hts hown hin hE hS pkX5_17 rfl rfl hO hg rfl rfl (Nat.le_of_ble_eq_true rfl) dX5_init_26 (fun H6 L6 hO6 hz6 hq6 hE hS => ?_)
  have hO : OB E 6 [.int 0, .ref b0, .ref b1, .ref b2, .null, .int 0, .int 0, .null, .null, .null, .null, .null, .null, .null, .null, .null, .null, .int 0, .null, .null, .null, .null, .null, .null] x H6 := hO6
  have hA0 := pk2 hA0 hq6 (by omega)
  have hA1 := pk2 hA1 hq6 (by omega)
  have hA2 := pk2 hA2 hq6 (by omega)
  have hF := hF.put hz6 hq6 (fun _ => rfl)
  refine lv_aload_n hx hb dX5_init_29 rfl (lv_at hl 0 rfl) ?_
  refine lv_sipush (v := 3001) hx hb dX5_init_30 (by decide) ?_
  refine naI (N' := 3001) hx hb hts hE hS qw2_208 rfl (by omega) (by omega) (by omega) dX5_init_33 (fun b3 H7 ea7 hA3 hz7 hq7 hE hS hg7 => ?_)
  have hO := pk3 hO hq7
  have hA0 := pk3 hA0 hq7
  have hA1 := pk3 hA1 hq7
  have hA2 := pk3 hA2 hq7
  have hF := hF.new (by omega) hq7
  have eb3 : b3 = H.size + 3 := by omega
  refine pfF hx hb hts hown hin hE hS pkX5_20 rfl rfl hO hg rfl rfl (Nat.le_of_ble_eq_true rfl) dX5_init_35 (fun H8 L8 hO8 hz8 hq8 hE hS => ?_)
  have hO : OB E 6 [.int 0, .ref b0, .ref b1, .ref b2, .ref b3, .int 0, .int 0, .null, .null, .null, .null, .null, .null, .null, .null, .null, .null, .int 0, .null, .null, .null, .null, .null, .null] x H8 := hO8
  have hA0 := pk2 hA0 hq8 (by omega)
  have hA1 := pk2 hA1 hq8 (by omega)
  have hA2 := pk2 hA2 hq8 (by omega)
  have hA3 := pk2 hA3 hq8 (by omega)
  have hF := hF.put hz8 hq8 (fun _ => rfl)
  refine lv_aload_n hx hb dX5_init_38 rfl (lv_at hl 0 rfl) ?_
  refine lv_bipush (v := 10) hx hb dX5_init_39 (by decide) ?_
  refine naI (N' := 10) hx hb hts hE hS qw2_208 rfl (by omega) (by omega) (by omega) dX5_init_41 (fun b4 H9 ea9 hA4 hz9 hq9 hE hS hg9 => ?_)
  have hO := pk3 hO hq9
  have hA0 := pk3 hA0 hq9
  have hA1 := pk3 hA1 hq9
  have hA2 := pk3 hA2 hq9
  have hA3 := pk3 hA3 hq9
  have hF := hF.new (by omega) hq9
  have eb4 : b4 = H.size + 4 := by omega
  refine pfF hx hb hts hown hin hE hS pkX5_23 rfl rfl hO hg rfl rfl (Nat.le_of_ble_eq_true rfl) dX5_init_43 (fun H10 L10 hO10 hz10 hq10 hE hS => ?_)
  have hO : OB E 6 [.int 0, .ref b0, .ref b1, .ref b2, .ref b3, .int 0, .int 0, .ref b4, .null, .null, .null, .null, .null, .null, .null, .null, .null, .int 0, .null, .null, .null, .null, .null, .null] x H10 := hO10
  have hA0 := pk2 hA0 hq10 (by omega)
  have hA1 := pk2 hA1 hq10 (by omega)
  have hA2 := pk2 hA2 hq10 (by omega)
  have hA3 := pk2 hA3 hq10 (by omega)
  have hA4 := pk2 hA4 hq10 (by omega)
  have hF := hF.put hz10 hq10 (fun _ => rfl)
  refine lv_aload_n hx hb dX5_init_46 rfl (lv_at hl 0 rfl) ?_
  refine lv_bipush (v := 10) hx hb dX5_init_47 (by decide) ?_
  refine naI (N' := 10) hx hb hts hE hS qw2_208 rfl (by omega) (by omega) (by omega) dX5_init_49 (fun b5 H11 ea11 hA5 hz11 hq11 hE hS hg11 => ?_)
  have hO := pk3 hO hq11
  have hA0 := pk3 hA0 hq11
  have hA1 := pk3 hA1 hq11
  have hA2 := pk3 hA2 hq11
  have hA3 := pk3 hA3 hq11
  have hA4 := pk3 hA4 hq11
  have hF := hF.new (by omega) hq11
  have eb5 : b5 = H.size + 5 := by omega
  refine pfF hx hb hts hown hin hE hS pkX5_26 rfl rfl hO hg rfl rfl (Nat.le_of_ble_eq_true rfl) dX5_init_51 (fun H12 L12 hO12 hz12 hq12 hE hS => ?_)
  have hO : OB E 6 [.int 0, .ref b0, .ref b1, .ref b2, .ref b3, .int 0, .int 0, .ref b4, .ref b5, .null, .null, .null, .null, .null, .null, .null, .null, .int 0, .null, .null, .null, .null, .null, .null] x H12 := hO12
  have hA0 := pk2 hA0 hq12 (by omega)
  have hA1 := pk2 hA1 hq12 (by omega)
  have hA2 := pk2 hA2 hq12 (by omega)
  have hA3 := pk2 hA3 hq12 (by omega)
  have hA4 := pk2 hA4 hq12 (by omega)
  have hA5 := pk2 hA5 hq12 (by omega)
  have hF := hF.put hz12 hq12 (fun _ => rfl)
  refine lv_aload_n hx hb dX5_init_54 rfl (lv_at hl 0 rfl) ?_
  refine lv_bipush (v := 10) hx hb dX5_init_55 (by decide) ?_
  refine naZ (N' := 10) hx hb hts hE hS qw3_238 rfl (by omega) (by omega) (by omega) dX5_init_57 (fun b6 H13 ea13 hA6 hz13 hq13 hE hS hg13 => ?_)
  have hO := pk3 hO hq13
  have hA0 := pk3 hA0 hq13
  have hA1 := pk3 hA1 hq13
  have hA2 := pk3 hA2 hq13
  have hA3 := pk3 hA3 hq13
  have hA4 := pk3 hA4 hq13
  have hA5 := pk3 hA5 hq13
  have hF := hF.new (by omega) hq13
  have eb6 : b6 = H.size + 6 := by omega
  refine pfF hx hb hts hown hin hE hS pkX5_29 rfl rfl hO hg rfl rfl (Nat.le_of_ble_eq_true rfl) dX5_init_59 (fun H14 L14 hO14 hz14 hq14 hE hS => ?_)
  have hO : OB E 6 [.int 0, .ref b0, .ref b1, .ref b2, .ref b3, .int 0, .int 0, .ref b4, .ref b5, .ref b6, .null, .null, .null, .null, .null, .null, .null, .int 0, .null, .null, .null, .null, .null, .null] x H14 := hO14
  have hA0 := pk2 hA0 hq14 (by omega)
  have hA1 := pk2 hA1 hq14 (by omega)
  have hA2 := pk2 hA2 hq14 (by omega)
  have hA3 := pk2 hA3 hq14 (by omega)
  have hA4 := pk2 hA4 hq14 (by omega)
  have hA5 := pk2 hA5 hq14 (by omega)
  have hA6 := pk2 hA6 hq14 (by omega)
  have hF := hF.put hz14 hq14 (fun _ => rfl)
  refine lv_aload_n hx hb dX5_init_62 rfl (lv_at hl 0 rfl) ?_
  refine lv_bipush (v := 10) hx hb dX5_init_63 (by decide) ?_
  refine naI (N' := 10) hx hb hts hE hS qw2_208 rfl (by omega) (by omega) (by omega) dX5_init_65 (fun b7 H15 ea15 hA7 hz15 hq15 hE hS hg15 => ?_)
  have hO := pk3 hO hq15
  have hA0 := pk3 hA0 hq15
  have hA1 := pk3 hA1 hq15
  have hA2 := pk3 hA2 hq15
  have hA3 := pk3 hA3 hq15
  have hA4 := pk3 hA4 hq15
  have hA5 := pk3 hA5 hq15
  have hA6 := pk3 hA6 hq15
  have hF := hF.new (by omega) hq15
  have eb7 : b7 = H.size + 7 := by omega
  refine pfF hx hb hts hown hin hE hS pkX5_32 rfl rfl hO hg rfl rfl (Nat.le_of_ble_eq_true rfl) dX5_init_67 (fun H16 L16 hO16 hz16 hq16 hE hS => ?_)
  have hO : OB E 6 [.int 0, .ref b0, .ref b1, .ref b2, .ref b3, .int 0, .int 0, .ref b4, .ref b5, .ref b6, .ref b7, .null, .null, .null, .null, .null, .null, .int 0, .null, .null, .null, .null, .null, .null] x H16 := hO16
  have hA0 := pk2 hA0 hq16 (by omega)
  have hA1 := pk2 hA1 hq16 (by omega)
  have hA2 := pk2 hA2 hq16 (by omega)
  have hA3 := pk2 hA3 hq16 (by omega)
  have hA4 := pk2 hA4 hq16 (by omega)
  have hA5 := pk2 hA5 hq16 (by omega)
  have hA6 := pk2 hA6 hq16 (by omega)
  have hA7 := pk2 hA7 hq16 (by omega)
  have hF := hF.put hz16 hq16 (fun _ => rfl)
  refine lv_aload_n hx hb dX5_init_70 rfl (lv_at hl 0 rfl) ?_
  refine lv_bipush (v := 10) hx hb dX5_init_71 (by decide) ?_
  refine naI (N' := 10) hx hb hts hE hS qw2_208 rfl (by omega) (by omega) (by omega) dX5_init_73 (fun b8 H17 ea17 hA8 hz17 hq17 hE hS hg17 => ?_)
  have hO := pk3 hO hq17
  have hA0 := pk3 hA0 hq17
  have hA1 := pk3 hA1 hq17
  have hA2 := pk3 hA2 hq17
  have hA3 := pk3 hA3 hq17
  have hA4 := pk3 hA4 hq17
  have hA5 := pk3 hA5 hq17
  have hA6 := pk3 hA6 hq17
  have hA7 := pk3 hA7 hq17
  have hF := hF.new (by omega) hq17
  have eb8 : b8 = H.size + 8 := by omega
  refine pfF hx hb hts hown hin hE hS pkX5_35 rfl rfl hO hg rfl rfl (Nat.le_of_ble_eq_true rfl) dX5_init_75 (fun H18 L18 hO18 hz18 hq18 hE hS => ?_)
  have hO : OB E 6 [.int 0, .ref b0, .ref b1, .ref b2, .ref b3, .int 0, .int 0, .ref b4, .ref b5, .ref b6, .ref b7, .ref b8, .null, .null, .null, .null, .null, .int 0, .null, .null, .null, .null, .null, .null] x H18 := hO18
  have hA0 := pk2 hA0 hq18 (by omega)
  have hA1 := pk2 hA1 hq18 (by omega)
  have hA2 := pk2 hA2 hq18 (by omega)
  have hA3 := pk2 hA3 hq18 (by omega)
  have hA4 := pk2 hA4 hq18 (by omega)
  have hA5 := pk2 hA5 hq18 (by omega)
  have hA6 := pk2 hA6 hq18 (by omega)
  have hA7 := pk2 hA7 hq18 (by omega)
  have hA8 := pk2 hA8 hq18 (by omega)
  have hF := hF.put hz18 hq18 (fun _ => rfl)
  refine lv_aload_n hx hb dX5_init_78 rfl (lv_at hl 0 rfl) ?_
  refine lv_bipush (v := 10) hx hb dX5_init_79 (by decide) ?_
  refine naI (N' := 10) hx hb hts hE hS qw2_208 rfl (by omega) (by omega) (by omega) dX5_init_81 (fun b9 H19 ea19 hA9 hz19 hq19 hE hS hg19 => ?_)
  have hO := pk3 hO hq19
  have hA0 := pk3 hA0 hq19
  have hA1 := pk3 hA1 hq19
  have hA2 := pk3 hA2 hq19
  have hA3 := pk3 hA3 hq19
  have hA4 := pk3 hA4 hq19
  have hA5 := pk3 hA5 hq19
  have hA6 := pk3 hA6 hq19
  have hA7 := pk3 hA7 hq19
  have hA8 := pk3 hA8 hq19
  have hF := hF.new (by omega) hq19
  have eb9 : b9 = H.size + 9 := by omega
  refine pfF hx hb hts hown hin hE hS pkX5_38 rfl rfl hO hg rfl rfl (Nat.le_of_ble_eq_true rfl) dX5_init_83 (fun H20 L20 hO20 hz20 hq20 hE hS => ?_)
  have hO : OB E 6 [.int 0, .ref b0, .ref b1, .ref b2, .ref b3, .int 0, .int 0, .ref b4, .ref b5, .ref b6, .ref b7, .ref b8, .ref b9, .null, .null, .null, .null, .int 0, .null, .null, .null, .null, .null, .null] x H20 := hO20
  have hA0 := pk2 hA0 hq20 (by omega)
  have hA1 := pk2 hA1 hq20 (by omega)
  have hA2 := pk2 hA2 hq20 (by omega)
  have hA3 := pk2 hA3 hq20 (by omega)
  have hA4 := pk2 hA4 hq20 (by omega)
  have hA5 := pk2 hA5 hq20 (by omega)
  have hA6 := pk2 hA6 hq20 (by omega)
  have hA7 := pk2 hA7 hq20 (by omega)
  have hA8 := pk2 hA8 hq20 (by omega)
  have hA9 := pk2 hA9 hq20 (by omega)
  have hF := hF.put hz20 hq20 (fun _ => rfl)
  refine lv_aload_n hx hb dX5_init_86 rfl (lv_at hl 0 rfl) ?_
  refine lv_bipush (v := 10) hx hb dX5_init_87 (by decide) ?_
  refine naI (N' := 10) hx hb hts hE hS qw2_208 rfl (by omega) (by omega) (by omega) dX5_init_89 (fun b10 H21 ea21 hA10 hz21 hq21 hE hS hg21 => ?_)
  have hO := pk3 hO hq21
  have hA0 := pk3 hA0 hq21
  have hA1 := pk3 hA1 hq21
  have hA2 := pk3 hA2 hq21
  have hA3 := pk3 hA3 hq21
  have hA4 := pk3 hA4 hq21
  have hA5 := pk3 hA5 hq21
  have hA6 := pk3 hA6 hq21
  have hA7 := pk3 hA7 hq21
  have hA8 := pk3 hA8 hq21
  have hA9 := pk3 hA9 hq21
  have hF := hF.new (by omega) hq21
  have eb10 : b10 = H.size + 10 := by omega
  refine pfF hx hb hts hown hin hE hS pkX5_41 rfl rfl hO hg rfl rfl (Nat.le_of_ble_eq_true rfl) dX5_init_91 (fun H22 L22 hO22 hz22 hq22 hE hS => ?_)
  have hO : OB E 6 [.int 0, .ref b0, .ref b1, .ref b2, .ref b3, .int 0, .int 0, .ref b4, .ref b5, .ref b6, .ref b7, .ref b8, .ref b9, .ref b10, .null, .null, .null, .int 0, .null, .null, .null, .null, .null, .null] x H22 := hO22
  have hA0 := pk2 hA0 hq22 (by omega)
  have hA1 := pk2 hA1 hq22 (by omega)
  have hA2 := pk2 hA2 hq22 (by omega)
  have hA3 := pk2 hA3 hq22 (by omega)
  have hA4 := pk2 hA4 hq22 (by omega)
  have hA5 := pk2 hA5 hq22 (by omega)
  have hA6 := pk2 hA6 hq22 (by omega)
  have hA7 := pk2 hA7 hq22 (by omega)
  have hA8 := pk2 hA8 hq22 (by omega)
  have hA9 := pk2 hA9 hq22 (by omega)
  have hA10 := pk2 hA10 hq22 (by omega)
  have hF := hF.put hz22 hq22 (fun _ => rfl)
  refine lv_aload_n hx hb dX5_init_94 rfl (lv_at hl 0 rfl) ?_
  refine lv_bipush (v := 10) hx hb dX5_init_95 (by decide) ?_
  refine naI (N' := 10) hx hb hts hE hS qw2_208 rfl (by omega) (by omega) (by omega) dX5_init_97 (fun b11 H23 ea23 hA11 hz23 hq23 hE hS hg23 => ?_)
  have hO := pk3 hO hq23
  have hA0 := pk3 hA0 hq23
  have hA1 := pk3 hA1 hq23
  have hA2 := pk3 hA2 hq23
  have hA3 := pk3 hA3 hq23
  have hA4 := pk3 hA4 hq23
  have hA5 := pk3 hA5 hq23
  have hA6 := pk3 hA6 hq23
  have hA7 := pk3 hA7 hq23
  have hA8 := pk3 hA8 hq23
  have hA9 := pk3 hA9 hq23
  have hA10 := pk3 hA10 hq23
  have hF := hF.new (by omega) hq23
  have eb11 : b11 = H.size + 11 := by omega
  refine pfF hx hb hts hown hin hE hS pkX5_44 rfl rfl hO hg rfl rfl (Nat.le_of_ble_eq_true rfl) dX5_init_99 (fun H24 L24 hO24 hz24 hq24 hE hS => ?_)
  have hO : OB E 6 [.int 0, .ref b0, .ref b1, .ref b2, .ref b3, .int 0, .int 0, .ref b4, .ref b5, .ref b6, .ref b7, .ref b8, .ref b9, .ref b10, .ref b11, .null, .null, .int 0, .null, .null, .null, .null, .null, .null] x H24 := hO24
  have hA0 := pk2 hA0 hq24 (by omega)
  have hA1 := pk2 hA1 hq24 (by omega)
  have hA2 := pk2 hA2 hq24 (by omega)
  have hA3 := pk2 hA3 hq24 (by omega)
  have hA4 := pk2 hA4 hq24 (by omega)
  have hA5 := pk2 hA5 hq24 (by omega)
  have hA6 := pk2 hA6 hq24 (by omega)
  have hA7 := pk2 hA7 hq24 (by omega)
  have hA8 := pk2 hA8 hq24 (by omega)
  have hA9 := pk2 hA9 hq24 (by omega)
  have hA10 := pk2 hA10 hq24 (by omega)
  have hA11 := pk2 hA11 hq24 (by omega)
  have hF := hF.put hz24 hq24 (fun _ => rfl)
  refine lv_aload_n hx hb dX5_init_102 rfl (lv_at hl 0 rfl) ?_
  refine lv_bipush (v := 10) hx hb dX5_init_103 (by decide) ?_
  refine naI (N' := 10) hx hb hts hE hS qw2_208 rfl (by omega) (by omega) (by omega) dX5_init_105 (fun b12 H25 ea25 hA12 hz25 hq25 hE hS hg25 => ?_)
  have hO := pk3 hO hq25
  have hA0 := pk3 hA0 hq25
  have hA1 := pk3 hA1 hq25
  have hA2 := pk3 hA2 hq25
  have hA3 := pk3 hA3 hq25
  have hA4 := pk3 hA4 hq25
  have hA5 := pk3 hA5 hq25
  have hA6 := pk3 hA6 hq25
  have hA7 := pk3 hA7 hq25
  have hA8 := pk3 hA8 hq25
  have hA9 := pk3 hA9 hq25
  have hA10 := pk3 hA10 hq25
  have hA11 := pk3 hA11 hq25
  have hF := hF.new (by omega) hq25
  have eb12 : b12 = H.size + 12 := by omega
  refine pfF hx hb hts hown hin hE hS pkX5_47 rfl rfl hO hg rfl rfl (Nat.le_of_ble_eq_true rfl) dX5_init_107 (fun H26 L26 hO26 hz26 hq26 hE hS => ?_)
  have hO : OB E 6 [.int 0, .ref b0, .ref b1, .ref b2, .ref b3, .int 0, .int 0, .ref b4, .ref b5, .ref b6, .ref b7, .ref b8, .ref b9, .ref b10, .ref b11, .ref b12, .null, .int 0, .null, .null, .null, .null, .null, .null] x H26 := hO26
  have hA0 := pk2 hA0 hq26 (by omega)
  have hA1 := pk2 hA1 hq26 (by omega)
  have hA2 := pk2 hA2 hq26 (by omega)
  have hA3 := pk2 hA3 hq26 (by omega)
  have hA4 := pk2 hA4 hq26 (by omega)
  have hA5 := pk2 hA5 hq26 (by omega)
  have hA6 := pk2 hA6 hq26 (by omega)
  have hA7 := pk2 hA7 hq26 (by omega)
  have hA8 := pk2 hA8 hq26 (by omega)
  have hA9 := pk2 hA9 hq26 (by omega)
  have hA10 := pk2 hA10 hq26 (by omega)
  have hA11 := pk2 hA11 hq26 (by omega)
  have hA12 := pk2 hA12 hq26 (by omega)
  have hF := hF.put hz26 hq26 (fun _ => rfl)
  refine lv_aload_n hx hb dX5_init_110 rfl (lv_at hl 0 rfl) ?_
  refine lv_bipush (v := 10) hx hb dX5_init_111 (by decide) ?_
  refine naI (N' := 10) hx hb hts hE hS qw2_208 rfl (by omega) (by omega) (by omega) dX5_init_113 (fun b13 H27 ea27 hA13 hz27 hq27 hE hS hg27 => ?_)
  have hO := pk3 hO hq27
  have hA0 := pk3 hA0 hq27
  have hA1 := pk3 hA1 hq27
  have hA2 := pk3 hA2 hq27
  have hA3 := pk3 hA3 hq27
  have hA4 := pk3 hA4 hq27
  have hA5 := pk3 hA5 hq27
  have hA6 := pk3 hA6 hq27
  have hA7 := pk3 hA7 hq27
  have hA8 := pk3 hA8 hq27
  have hA9 := pk3 hA9 hq27
  have hA10 := pk3 hA10 hq27
  have hA11 := pk3 hA11 hq27
  have hA12 := pk3 hA12 hq27
  have hF := hF.new (by omega) hq27
  have eb13 : b13 = H.size + 13 := by omega
  refine pfF hx hb hts hown hin hE hS pkX5_50 rfl rfl hO hg rfl rfl (Nat.le_of_ble_eq_true rfl) dX5_init_115 (fun H28 L28 hO28 hz28 hq28 hE hS => ?_)
  have hO : OB E 6 [.int 0, .ref b0, .ref b1, .ref b2, .ref b3, .int 0, .int 0, .ref b4, .ref b5, .ref b6, .ref b7, .ref b8, .ref b9, .ref b10, .ref b11, .ref b12, .ref b13, .int 0, .null, .null, .null, .null, .null, .null] x H28 := hO28
  have hA0 := pk2 hA0 hq28 (by omega)
  have hA1 := pk2 hA1 hq28 (by omega)
  have hA2 := pk2 hA2 hq28 (by omega)
  have hA3 := pk2 hA3 hq28 (by omega)
  have hA4 := pk2 hA4 hq28 (by omega)
  have hA5 := pk2 hA5 hq28 (by omega)
  have hA6 := pk2 hA6 hq28 (by omega)
  have hA7 := pk2 hA7 hq28 (by omega)
  have hA8 := pk2 hA8 hq28 (by omega)
  have hA9 := pk2 hA9 hq28 (by omega)
  have hA10 := pk2 hA10 hq28 (by omega)
  have hA11 := pk2 hA11 hq28 (by omega)
  have hA12 := pk2 hA12 hq28 (by omega)
  have hA13 := pk2 hA13 hq28 (by omega)
  have hF := hF.put hz28 hq28 (fun _ => rfl)
  refine lv_aload_n hx hb dX5_init_118 rfl (lv_at hl 0 rfl) ?_
  refine lv_sipush (v := 10000) hx hb dX5_init_119 (by decide) ?_
  refine naI (N' := 10000) hx hb hts hE hS qw2_208 rfl (by omega) (by omega) (by omega) dX5_init_122 (fun b14 H29 ea29 hA14 hz29 hq29 hE hS hg29 => ?_)
  have hO := pk3 hO hq29
  have hA0 := pk3 hA0 hq29
  have hA1 := pk3 hA1 hq29
  have hA2 := pk3 hA2 hq29
  have hA3 := pk3 hA3 hq29
  have hA4 := pk3 hA4 hq29
  have hA5 := pk3 hA5 hq29
  have hA6 := pk3 hA6 hq29
  have hA7 := pk3 hA7 hq29
  have hA8 := pk3 hA8 hq29
  have hA9 := pk3 hA9 hq29
  have hA10 := pk3 hA10 hq29
  have hA11 := pk3 hA11 hq29
  have hA12 := pk3 hA12 hq29
  have hA13 := pk3 hA13 hq29
  have hF := hF.new (by omega) hq29
  have eb14 : b14 = H.size + 14 := by omega
  refine pfF hx hb hts hown hin hE hS pkX5_53 rfl rfl hO hg rfl rfl (Nat.le_of_ble_eq_true rfl) dX5_init_124 (fun H30 L30 hO30 hz30 hq30 hE hS => ?_)
  have hO : OB E 6 [.int 0, .ref b0, .ref b1, .ref b2, .ref b3, .int 0, .int 0, .ref b4, .ref b5, .ref b6, .ref b7, .ref b8, .ref b9, .ref b10, .ref b11, .ref b12, .ref b13, .int 0, .ref b14, .null, .null, .null, .null, .null] x H30 := hO30
  have hA0 := pk2 hA0 hq30 (by omega)
  have hA1 := pk2 hA1 hq30 (by omega)
  have hA2 := pk2 hA2 hq30 (by omega)
  have hA3 := pk2 hA3 hq30 (by omega)
  have hA4 := pk2 hA4 hq30 (by omega)
  have hA5 := pk2 hA5 hq30 (by omega)
  have hA6 := pk2 hA6 hq30 (by omega)
  have hA7 := pk2 hA7 hq30 (by omega)
  have hA8 := pk2 hA8 hq30 (by omega)
  have hA9 := pk2 hA9 hq30 (by omega)
  have hA10 := pk2 hA10 hq30 (by omega)
  have hA11 := pk2 hA11 hq30 (by omega)
  have hA12 := pk2 hA12 hq30 (by omega)
  have hA13 := pk2 hA13 hq30 (by omega)
  have hA14 := pk2 hA14 hq30 (by omega)
  have hF := hF.put hz30 hq30 (fun _ => rfl)
  refine lv_aload_n hx hb dX5_init_127 rfl (lv_at hl 0 rfl) ?_
  refine lv_sipush (v := 10000) hx hb dX5_init_128 (by decide) ?_
  refine naI (N' := 10000) hx hb hts hE hS qw2_208 rfl (by omega) (by omega) (by omega) dX5_init_131 (fun b15 H31 ea31 hA15 hz31 hq31 hE hS hg31 => ?_)
  have hO := pk3 hO hq31
  have hA0 := pk3 hA0 hq31
  have hA1 := pk3 hA1 hq31
  have hA2 := pk3 hA2 hq31
  have hA3 := pk3 hA3 hq31
  have hA4 := pk3 hA4 hq31
  have hA5 := pk3 hA5 hq31
  have hA6 := pk3 hA6 hq31
  have hA7 := pk3 hA7 hq31
  have hA8 := pk3 hA8 hq31
  have hA9 := pk3 hA9 hq31
  have hA10 := pk3 hA10 hq31
  have hA11 := pk3 hA11 hq31
  have hA12 := pk3 hA12 hq31
  have hA13 := pk3 hA13 hq31
  have hA14 := pk3 hA14 hq31
  have hF := hF.new (by omega) hq31
  have eb15 : b15 = H.size + 15 := by omega
  refine pfF hx hb hts hown hin hE hS pkX5_56 rfl rfl hO hg rfl rfl (Nat.le_of_ble_eq_true rfl) dX5_init_133 (fun H32 L32 hO32 hz32 hq32 hE hS => ?_)
  have hO : OB E 6 [.int 0, .ref b0, .ref b1, .ref b2, .ref b3, .int 0, .int 0, .ref b4, .ref b5, .ref b6, .ref b7, .ref b8, .ref b9, .ref b10, .ref b11, .ref b12, .ref b13, .int 0, .ref b14, .ref b15, .null, .null, .null, .null] x H32 := hO32
  have hA0 := pk2 hA0 hq32 (by omega)
  have hA1 := pk2 hA1 hq32 (by omega)
  have hA2 := pk2 hA2 hq32 (by omega)
  have hA3 := pk2 hA3 hq32 (by omega)
  have hA4 := pk2 hA4 hq32 (by omega)
  have hA5 := pk2 hA5 hq32 (by omega)
  have hA6 := pk2 hA6 hq32 (by omega)
  have hA7 := pk2 hA7 hq32 (by omega)
  have hA8 := pk2 hA8 hq32 (by omega)
  have hA9 := pk2 hA9 hq32 (by omega)
  have hA10 := pk2 hA10 hq32 (by omega)
  have hA11 := pk2 hA11 hq32 (by omega)
  have hA12 := pk2 hA12 hq32 (by omega)
  have hA13 := pk2 hA13 hq32 (by omega)
  have hA14 := pk2 hA14 hq32 (by omega)
  have hA15 := pk2 hA15 hq32 (by omega)
  have hF := hF.put hz32 hq32 (fun _ => rfl)
  refine lv_aload_n hx hb dX5_init_136 rfl (lv_at hl 0 rfl) ?_
  refine lv_sipush (v := 10000) hx hb dX5_init_137 (by decide) ?_
  refine naI (N' := 10000) hx hb hts hE hS qw2_208 rfl (by omega) (by omega) (by omega) dX5_init_140 (fun b16 H33 ea33 hA16 hz33 hq33 hE hS hg33 => ?_)
  have hO := pk3 hO hq33
  have hA0 := pk3 hA0 hq33
  have hA1 := pk3 hA1 hq33
  have hA2 := pk3 hA2 hq33
  have hA3 := pk3 hA3 hq33
  have hA4 := pk3 hA4 hq33
  have hA5 := pk3 hA5 hq33
  have hA6 := pk3 hA6 hq33
  have hA7 := pk3 hA7 hq33
  have hA8 := pk3 hA8 hq33
  have hA9 := pk3 hA9 hq33
  have hA10 := pk3 hA10 hq33
  have hA11 := pk3 hA11 hq33
  have hA12 := pk3 hA12 hq33
  have hA13 := pk3 hA13 hq33
  have hA14 := pk3 hA14 hq33
  have hA15 := pk3 hA15 hq33
  have hF := hF.new (by omega) hq33
  have eb16 : b16 = H.size + 16 := by omega
  refine pfF hx hb hts hown hin hE hS pkX5_59 rfl rfl hO hg rfl rfl (Nat.le_of_ble_eq_true rfl) dX5_init_142 (fun H34 L34 hO34 hz34 hq34 hE hS => ?_)
  have hO : OB E 6 [.int 0, .ref b0, .ref b1, .ref b2, .ref b3, .int 0, .int 0, .ref b4, .ref b5, .ref b6, .ref b7, .ref b8, .ref b9, .ref b10, .ref b11, .ref b12, .ref b13, .int 0, .ref b14, .ref b15, .ref b16, .null, .null, .null] x H34 := hO34
  have hA0 := pk2 hA0 hq34 (by omega)
  have hA1 := pk2 hA1 hq34 (by omega)
  have hA2 := pk2 hA2 hq34 (by omega)
  have hA3 := pk2 hA3 hq34 (by omega)
  have hA4 := pk2 hA4 hq34 (by omega)
  have hA5 := pk2 hA5 hq34 (by omega)
  have hA6 := pk2 hA6 hq34 (by omega)
  have hA7 := pk2 hA7 hq34 (by omega)
  have hA8 := pk2 hA8 hq34 (by omega)
  have hA9 := pk2 hA9 hq34 (by omega)
  have hA10 := pk2 hA10 hq34 (by omega)
  have hA11 := pk2 hA11 hq34 (by omega)
  have hA12 := pk2 hA12 hq34 (by omega)
  have hA13 := pk2 hA13 hq34 (by omega)
  have hA14 := pk2 hA14 hq34 (by omega)
  have hA15 := pk2 hA15 hq34 (by omega)
  have hA16 := pk2 hA16 hq34 (by omega)
  have hF := hF.put hz34 hq34 (fun _ => rfl)
  refine lv_aload_n hx hb dX5_init_145 rfl (lv_at hl 0 rfl) ?_
  refine lv_bipush (v := 10) hx hb dX5_init_146 (by decide) ?_
  refine naI (N' := 10) hx hb hts hE hS qw2_208 rfl (by omega) (by omega) (by omega) dX5_init_148 (fun b17 H35 ea35 hA17 hz35 hq35 hE hS hg35 => ?_)
  have hO := pk3 hO hq35
  have hA0 := pk3 hA0 hq35
  have hA1 := pk3 hA1 hq35
  have hA2 := pk3 hA2 hq35
  have hA3 := pk3 hA3 hq35
  have hA4 := pk3 hA4 hq35
  have hA5 := pk3 hA5 hq35
  have hA6 := pk3 hA6 hq35
  have hA7 := pk3 hA7 hq35
  have hA8 := pk3 hA8 hq35
  have hA9 := pk3 hA9 hq35
  have hA10 := pk3 hA10 hq35
  have hA11 := pk3 hA11 hq35
  have hA12 := pk3 hA12 hq35
  have hA13 := pk3 hA13 hq35
  have hA14 := pk3 hA14 hq35
  have hA15 := pk3 hA15 hq35
  have hA16 := pk3 hA16 hq35
  have hF := hF.new (by omega) hq35
  have eb17 : b17 = H.size + 17 := by omega
  refine pfF hx hb hts hown hin hE hS pkX5_62 rfl rfl hO hg rfl rfl (Nat.le_of_ble_eq_true rfl) dX5_init_150 (fun H36 L36 hO36 hz36 hq36 hE hS => ?_)
  have hO : OB E 6 [.int 0, .ref b0, .ref b1, .ref b2, .ref b3, .int 0, .int 0, .ref b4, .ref b5, .ref b6, .ref b7, .ref b8, .ref b9, .ref b10, .ref b11, .ref b12, .ref b13, .int 0, .ref b14, .ref b15, .ref b16, .ref b17, .null, .null] x H36 := hO36
  have hA0 := pk2 hA0 hq36 (by omega)
  have hA1 := pk2 hA1 hq36 (by omega)
  have hA2 := pk2 hA2 hq36 (by omega)
  have hA3 := pk2 hA3 hq36 (by omega)
  have hA4 := pk2 hA4 hq36 (by omega)
  have hA5 := pk2 hA5 hq36 (by omega)
  have hA6 := pk2 hA6 hq36 (by omega)
  have hA7 := pk2 hA7 hq36 (by omega)
  have hA8 := pk2 hA8 hq36 (by omega)
  have hA9 := pk2 hA9 hq36 (by omega)
  have hA10 := pk2 hA10 hq36 (by omega)
  have hA11 := pk2 hA11 hq36 (by omega)
  have hA12 := pk2 hA12 hq36 (by omega)
  have hA13 := pk2 hA13 hq36 (by omega)
  have hA14 := pk2 hA14 hq36 (by omega)
  have hA15 := pk2 hA15 hq36 (by omega)
  have hA16 := pk2 hA16 hq36 (by omega)
  have hA17 := pk2 hA17 hq36 (by omega)
  have hF := hF.put hz36 hq36 (fun _ => rfl)
  refine lv_aload_n hx hb dX5_init_153 rfl (lv_at hl 0 rfl) ?_
  refine lv_bipush (v := 100) hx hb dX5_init_154 (by decide) ?_
  refine naI (N' := 100) hx hb hts hE hS qw2_208 rfl (by omega) (by omega) (by omega) dX5_init_156 (fun b18 H37 ea37 hA18 hz37 hq37 hE hS hg37 => ?_)
  have hO := pk3 hO hq37
  have hA0 := pk3 hA0 hq37
  have hA1 := pk3 hA1 hq37
  have hA2 := pk3 hA2 hq37
  have hA3 := pk3 hA3 hq37
  have hA4 := pk3 hA4 hq37
  have hA5 := pk3 hA5 hq37
  have hA6 := pk3 hA6 hq37
  have hA7 := pk3 hA7 hq37
  have hA8 := pk3 hA8 hq37
  have hA9 := pk3 hA9 hq37
  have hA10 := pk3 hA10 hq37
  have hA11 := pk3 hA11 hq37
  have hA12 := pk3 hA12 hq37
  have hA13 := pk3 hA13 hq37
  have hA14 := pk3 hA14 hq37
  have hA15 := pk3 hA15 hq37
  have hA16 := pk3 hA16 hq37
  have hA17 := pk3 hA17 hq37
  have hF := hF.new (by omega) hq37
  have eb18 : b18 = H.size + 18 := by omega
  refine pfF hx hb hts hown hin hE hS pkX5_65 rfl rfl hO hg rfl rfl (Nat.le_of_ble_eq_true rfl) dX5_init_158 (fun H38 L38 hO38 hz38 hq38 hE hS => ?_)
  have hO : OB E 6 [.int 0, .ref b0, .ref b1, .ref b2, .ref b3, .int 0, .int 0, .ref b4, .ref b5, .ref b6, .ref b7, .ref b8, .ref b9, .ref b10, .ref b11, .ref b12, .ref b13, .int 0, .ref b14, .ref b15, .ref b16, .ref b17, .ref b18, .null] x H38 := hO38
  have hA0 := pk2 hA0 hq38 (by omega)
  have hA1 := pk2 hA1 hq38 (by omega)
  have hA2 := pk2 hA2 hq38 (by omega)
  have hA3 := pk2 hA3 hq38 (by omega)
  have hA4 := pk2 hA4 hq38 (by omega)
  have hA5 := pk2 hA5 hq38 (by omega)
  have hA6 := pk2 hA6 hq38 (by omega)
  have hA7 := pk2 hA7 hq38 (by omega)
  have hA8 := pk2 hA8 hq38 (by omega)
  have hA9 := pk2 hA9 hq38 (by omega)
  have hA10 := pk2 hA10 hq38 (by omega)
  have hA11 := pk2 hA11 hq38 (by omega)
  have hA12 := pk2 hA12 hq38 (by omega)
  have hA13 := pk2 hA13 hq38 (by omega)
  have hA14 := pk2 hA14 hq38 (by omega)
  have hA15 := pk2 hA15 hq38 (by omega)
  have hA16 := pk2 hA16 hq38 (by omega)
  have hA17 := pk2 hA17 hq38 (by omega)
  have hA18 := pk2 hA18 hq38 (by omega)
  have hF := hF.put hz38 hq38 (fun _ => rfl)
  refine lv_aload_n hx hb dX5_init_161 rfl (lv_at hl 0 rfl) ?_
  refine lv_bipush (v := 100) hx hb dX5_init_162 (by decide) ?_
  refine naI (N' := 100) hx hb hts hE hS qw2_208 rfl (by omega) (by omega) (by omega) dX5_init_164 (fun b19 H39 ea39 hA19 hz39 hq39 hE hS hg39 => ?_)
  have hO := pk3 hO hq39
  have hA0 := pk3 hA0 hq39
  have hA1 := pk3 hA1 hq39
  have hA2 := pk3 hA2 hq39
  have hA3 := pk3 hA3 hq39
  have hA4 := pk3 hA4 hq39
  have hA5 := pk3 hA5 hq39
  have hA6 := pk3 hA6 hq39
  have hA7 := pk3 hA7 hq39
  have hA8 := pk3 hA8 hq39
  have hA9 := pk3 hA9 hq39
  have hA10 := pk3 hA10 hq39
  have hA11 := pk3 hA11 hq39
  have hA12 := pk3 hA12 hq39
  have hA13 := pk3 hA13 hq39
  have hA14 := pk3 hA14 hq39
  have hA15 := pk3 hA15 hq39
  have hA16 := pk3 hA16 hq39
  have hA17 := pk3 hA17 hq39
  have hA18 := pk3 hA18 hq39
  have hF := hF.new (by omega) hq39
  have eb19 : b19 = H.size + 19 := by omega
  refine pfF hx hb hts hown hin hE hS pkX5_68 rfl rfl hO hg rfl rfl (Nat.le_of_ble_eq_true rfl) dX5_init_166 (fun H40 L40 hO40 hz40 hq40 hE hS => ?_)
  have hO : OB E 6 [.int 0, .ref b0, .ref b1, .ref b2, .ref b3, .int 0, .int 0, .ref b4, .ref b5, .ref b6, .ref b7, .ref b8, .ref b9, .ref b10, .ref b11, .ref b12, .ref b13, .int 0, .ref b14, .ref b15, .ref b16, .ref b17, .ref b18, .ref b19] x H40 := hO40
  have hA0 := pk2 hA0 hq40 (by omega)
  have hA1 := pk2 hA1 hq40 (by omega)
  have hA2 := pk2 hA2 hq40 (by omega)
  have hA3 := pk2 hA3 hq40 (by omega)
  have hA4 := pk2 hA4 hq40 (by omega)
  have hA5 := pk2 hA5 hq40 (by omega)
  have hA6 := pk2 hA6 hq40 (by omega)
  have hA7 := pk2 hA7 hq40 (by omega)
  have hA8 := pk2 hA8 hq40 (by omega)
  have hA9 := pk2 hA9 hq40 (by omega)
  have hA10 := pk2 hA10 hq40 (by omega)
  have hA11 := pk2 hA11 hq40 (by omega)
  have hA12 := pk2 hA12 hq40 (by omega)
  have hA13 := pk2 hA13 hq40 (by omega)
  have hA14 := pk2 hA14 hq40 (by omega)
  have hA15 := pk2 hA15 hq40 (by omega)
  have hA16 := pk2 hA16 hq40 (by omega)
  have hA17 := pk2 hA17 hq40 (by omega)
  have hA18 := pk2 hA18 hq40 (by omega)
  have hA19 := pk2 hA19 hq40 (by omega)
  have hF := hF.put hz40 hq40 (fun _ => rfl)
  refine lv_aload_n hx hb dX5_init_169 rfl (lv_at hl 0 rfl) ?_
  refine lv_iconst (v := 0) hx hb dX5_init_170 (by decide) ?_
  refine pf hx hb hts hown hE hS pkX5_71 rfl hO hg rfl rfl (Nat.le_of_ble_eq_true rfl) dX5_init_171 (fun H41 L41 hO41 hz41 hq41 hE hS => ?_)
  have hO : OB E 6 [.int 0, .ref b0, .ref b1, .ref b2, .ref b3, .int 0, .int 0, .ref b4, .ref b5, .ref b6, .ref b7, .ref b8, .ref b9, .ref b10, .ref b11, .ref b12, .ref b13, .int 0, .ref b14, .ref b15, .ref b16, .ref b17, .ref b18, .ref b19] x H41 := hO41
  have hA0 := pk2 hA0 hq41 (by omega)
  have hA1 := pk2 hA1 hq41 (by omega)
  have hA2 := pk2 hA2 hq41 (by omega)
  have hA3 := pk2 hA3 hq41 (by omega)
  have hA4 := pk2 hA4 hq41 (by omega)
  have hA5 := pk2 hA5 hq41 (by omega)
  have hA6 := pk2 hA6 hq41 (by omega)
  have hA7 := pk2 hA7 hq41 (by omega)
  have hA8 := pk2 hA8 hq41 (by omega)
  have hA9 := pk2 hA9 hq41 (by omega)
  have hA10 := pk2 hA10 hq41 (by omega)
  have hA11 := pk2 hA11 hq41 (by omega)
  have hA12 := pk2 hA12 hq41 (by omega)
  have hA13 := pk2 hA13 hq41 (by omega)
  have hA14 := pk2 hA14 hq41 (by omega)
  have hA15 := pk2 hA15 hq41 (by omega)
  have hA16 := pk2 hA16 hq41 (by omega)
  have hA17 := pk2 hA17 hq41 (by omega)
  have hA18 := pk2 hA18 hq41 (by omega)
  have hA19 := pk2 hA19 hq41 (by omega)
  have hF := hF.put hz41 hq41 (fun _ => rfl)
  have hsz : H41.size = H.size + 20 := by omega
  rw [eb0] at hA0 hO
  rw [eb1] at hA1 hO
  rw [eb2] at hA2 hO
  rw [eb3] at hA3 hO
  rw [eb4] at hA4 hO
  rw [eb5] at hA5 hO
  rw [eb6] at hA6 hO
  rw [eb7] at hA7 hO
  rw [eb8] at hA8 hO
  rw [eb9] at hA9 hO
  rw [eb10] at hA10 hO
  rw [eb11] at hA11 hO
  rw [eb12] at hA12 hO
  rw [eb13] at hA13 hO
  rw [eb14] at hA14 hO
  rw [eb15] at hA15 hO
  rw [eb16] at hA16 hO
  rw [eb17] at hA17 hO
  rw [eb18] at hA18 hO
  rw [eb19] at hA19 hO
  refine cU hx hb hr hlk hB hS (by omega) (by omega) ⟨rfl, fun z => if z < H.size then ow z else (4, kI (z - H.size)), fun z h9 => if_pos h9, fun z h9 => ?_, ⟨fun _ => 0, adI H.size, fun _ _ => 0, ⟨⟨hO, fun k hk => ?_⟩, ⟨?_, hg⟩, fun k hk => ?_⟩, MI.nil, rfl⟩, hF, hsz⟩ dX5_init_174
  · (try dsimp only)
    rw [if_neg (Nat.not_lt.mpr h9)]
    refine ⟨rfl, fun h8 => ?_⟩
    show kI (z - H.size) ≤ 23
    unfold kI
    split
    · omega
    · split <;> omega
  · have h7 := mK_0 hk
    rcases (show k = 1 ∨ k = 2 ∨ k = 3 ∨ k = 4 ∨ k = 5 ∨ k = 6 ∨ k = 7 ∨ k = 8 ∨ k = 9 ∨ k = 10 ∨ k = 11 ∨ k = 12 ∨ k = 13 ∨ k = 14 ∨ k = 15 ∨ k = 16 ∨ k = 17 ∨ k = 18 ∨ k = 19 ∨ k = 20 ∨ k = 21 ∨ k = 22 ∨ k = 23 by omega) with rfl | rfl | rfl | rfl | rfl | rfl | rfl | rfl | rfl | rfl | rfl | rfl | rfl | rfl | rfl | rfl | rfl | rfl | rfl | rfl | rfl | rfl | rfl
    · exact hA0
    · exact hA1
    · exact hA2
    · exact hA3
    · exact absurd hk (by decide)
    · exact absurd hk (by decide)
    · exact hA4
    · exact hA5
    · exact hA6
    · exact hA7
    · exact hA8
    · exact hA9
    · exact hA10
    · exact hA11
    · exact hA12
    · exact hA13
    · exact absurd hk (by decide)
    · exact hA14
    · exact hA15
    · exact hA16
    · exact hA17
    · exact hA18
    · exact hA19
  · (try dsimp only)
    rw [if_pos hwl]; exact how
  · have h7 := mK_0 hk
    have hgB : eB E ≤ H.size := by rw [← hH]; exact hB
    rcases (show k = 1 ∨ k = 2 ∨ k = 3 ∨ k = 4 ∨ k = 5 ∨ k = 6 ∨ k = 7 ∨ k = 8 ∨ k = 9 ∨ k = 10 ∨ k = 11 ∨ k = 12 ∨ k = 13 ∨ k = 14 ∨ k = 15 ∨ k = 16 ∨ k = 17 ∨ k = 18 ∨ k = 19 ∨ k = 20 ∨ k = 21 ∨ k = 22 ∨ k = 23 by omega) with rfl | rfl | rfl | rfl | rfl | rfl | rfl | rfl | rfl | rfl | rfl | rfl | rfl | rfl | rfl | rfl | rfl | rfl | rfl | rfl | rfl | rfl | rfl
    · exact lab9 hgB 0 rfl rfl
    · exact lab9 hgB 1 rfl rfl
    · exact lab9 hgB 2 rfl rfl
    · exact lab9 hgB 3 rfl rfl
    · exact absurd hk (by decide)
    · exact absurd hk (by decide)
    · exact lab9 hgB 4 rfl rfl
    · exact lab9 hgB 5 rfl rfl
    · exact lab9 hgB 6 rfl rfl
    · exact lab9 hgB 7 rfl rfl
    · exact lab9 hgB 8 rfl rfl
    · exact lab9 hgB 9 rfl rfl
    · exact lab9 hgB 10 rfl rfl
    · exact lab9 hgB 11 rfl rfl
    · exact lab9 hgB 12 rfl rfl
    · exact lab9 hgB 13 rfl rfl
    · exact absurd hk (by decide)
    · exact lab9 hgB 14 rfl rfl
    · exact lab9 hgB 15 rfl rfl
    · exact lab9 hgB 16 rfl rfl
    · exact lab9 hgB 17 rfl rfl
    · exact lab9 hgB 18 rfl rfl
    · exact lab9 hgB 19 rfl rfl
