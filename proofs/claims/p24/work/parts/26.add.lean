theorem add_get {f : Nat → Option Nat} {ad : Nat → Nat} {c w : Nat} (hf : ∀ i, i < c → f i = some (ad i)) (i : Nat) (hi : i < c + 1) : va_up f c (some w) i = some (va_up ad c w i) := by
  by_cases e : i = c
  · subst e; simp [va_up]
  · simp only [va_up, if_neg e]; exact hf i (by omega)
theorem owx_size {ow : Nat → Nat × Nat} {H H1 : Heap} {x : Nat × Nat} (h : H1.size = H.size) : owx ow H1 x = owx ow H x := by
  unfold owx
  rw [h]
set_option maxRecDepth 100000 in
set_option maxHeartbeats 4000000 in
/-- ArrayList.grow(int) of the empty array -/
theorem c_growA (E : ET) (a mo9 : Nat) (mo : Int32) (H : Heap) (hO : OB E 0 [.int mo, .ref (eF E), .int (nI 0)] a H) (ha : eB E ≤ a) : Con E yJx4a65c_grow_92f84 cJx4a65c_grow_92f84 4 (some (FieldType.array (FieldType.object "java/lang/Object"))) 4 1 10 [.ref a, .int (nI 1)] H (o1 (some (.ref H.size)) (fun H' => OB E 0 [.int mo, .ref H.size, .int (nI 0)] a H' ∧ QA E 10 (fun _ => none) H.size H' ∧ FR (fun q => q = a) H H')) := by
  refine Con.of (C := RJx4a65c) rfl (by decide +kernel) (Nat.le_of_ble_eq_true rfl) ?_
  intro p e s m below meth co ls hx hb hr hlk hml hown hts hin hE hH hS hl
  have hl : lv_has ls 4 [(0, .ref a), (1, .int (nI 1))] := hl
  have hB : eB E ≤ s.heap.size := by rw [hH]; exact hE.2.1
  have hA : QB E 0 (fun _ => none) (eF E) H := Or.inr ⟨rfl, hE.2.2.2.1⟩
  have hal := plt hO
  refine lv_aload_n hx hb dJx4a65c_grow_92f84_0 rfl (lv_at hl 0 rfl) ?_
  refine gf hx hb hts hown hE lkJx4a65c_9 hO rfl dJx4a65c_grow_92f84_1 ?_
  refine aLB hx hb hE hA dJx4a65c_grow_92f84_4 ?_
  refine lv_istore_n (lv' := [(2, .int (nI 0)), (0, .ref a), (1, .int (nI 1))]) hx hb dJx4a65c_grow_92f84_5 rfl hl (by decide) rfl (fun ls hl => ?_)
  refine lv_iload_n hx hb dJx4a65c_grow_92f84_6 rfl (lv_at hl 0 rfl) ?_
  refine lv_if_gt (tgt := 20) hx hb dJx4a65c_grow_92f84_7 (by decide) (fun c1 => ?_) (fun c1 => ?_)
  · exact absurd c1 (by decide)
  refine lv_aload_n hx hb dJx4a65c_grow_92f84_10 rfl (lv_at hl 1 rfl) ?_
  refine gf hx hb hts hown hE lkJx4a65c_9 hO rfl dJx4a65c_grow_92f84_11 ?_
  refine va_gets hx hb (by rw [hH]; exact hE.2.2.2.2.1) hS hown (hts _ qw1_53) (fun _ h => h) dJx4a65c_grow_92f84_14 ?_
  refine lv_acmp_eq (rx := some (eF E)) (ry := some (eF E)) (tgt := 45) hx hb dJx4a65c_grow_92f84_17 (by decide) (fun _ => ?_) (fun c => absurd rfl c)
  refine lv_aload_n hx hb dJx4a65c_grow_92f84_45 rfl (lv_at hl 1 rfl) ?_
  refine lv_bipush (v := 10) hx hb dJx4a65c_grow_92f84_46 (by decide) ?_
  refine lv_iload_n hx hb dJx4a65c_grow_92f84_48 rfl (lv_at hl 2 rfl) ?_
  refine va_mmax hx hb (by rw [hml]; exact hl.1.symm) hown (hts _ qw2_66) (hts _ qw2_32) (hts _ qw1_14) (hts _ qw2_33) (Nat.le_of_ble_eq_true rfl) (by show _ ≤ 160; simp [Value.category]) (Nat.zero_le _) (Nat.zero_le _) dJx4a65c_grow_92f84_49 ?_
  rw [show (if (10 : Int32) < nI 1 then nI 1 else 10) = 10 by decide]
  refine naQ (N' := 10) hx hb hts hown hE hS qw2_67 rfl (by omega) (by omega) (by omega) dJx4a65c_grow_92f84_52 (fun q H1 ea1 hN hz1 hq1 hE hS hg1 => ?_)
  have hF : FR (fun q => q = a) H H1 := FR.rf.new (by omega) hq1
  have hO := pk3 hO hq1
  refine lv_dup_x1 hx hb dJx4a65c_grow_92f84_55 rfl rfl ?_
  refine pf hx hb hts hown hE hS pkJx4a65c_9 rfl hO ha rfl rfl (Nat.le_of_ble_eq_true rfl) dJx4a65c_grow_92f84_56 (fun H2 L2 hO2 hz2 hq2 hE hS => ?_)
  have hO : OB E 0 [.int mo, .ref q, .int (nI 0)] a H2 := hO2
  have hN := pk2 hN hq2 (by omega)
  have hF := hF.put hz2 hq2 (fun _ => rfl)
  exact cR hx hb hr (Or.inr ⟨_, rfl⟩) (Or.inr ⟨_, rfl⟩) hlk hB hS (by omega) (by omega) (⟨by first | rfl | rw [ea1], by first | exact hO | (rw [← ea1]; exact hO), by first | exact hN | (rw [← ea1]; exact hN), hF⟩) dJx4a65c_grow_92f84_59

set_option maxRecDepth 100000 in
set_option maxHeartbeats 4000000 in
/-- ArrayList.grow(int) of a full array -/
theorem c_growB (E : ET) (a arr n ci : Nat) (mo : Int32) (f : Nat → Option Nat) (C : String) (T : u_T) (N : Nat) (H : Heap) (hO : OB E 0 [.int mo, .ref arr, .int (nI n)] a H) (ha : eB E ≤ a) (hA : QA E n f arr H) (hg : eB E ≤ arr) (h2 : 2 ≤ n) (hn4 : n ≤ 40000) (hc : vwCl[ci]? = some (C, T, N)) (hca : (C, xO) ∈ casL) (hel : ∀ i, i < n → ∀ y, f i = some y → ∃ fs, OB E ci fs y H) : Con E yJx4a65c_grow_92f84 cJx4a65c_grow_92f84 4 (some (FieldType.array (FieldType.object "java/lang/Object"))) 4 1 (n + n / 2) [.ref a, .int (nI (n + 1))] H (o1 (some (.ref H.size)) (fun H' => OB E 0 [.int mo, .ref H.size, .int (nI n)] a H' ∧ QA E (n + n / 2) (va_cpy f (fun _ => none) 0 0 n) H.size H' ∧ FR (fun q => q = a) H H')) := by
  refine Con.of (C := RJx4a65c) rfl (by decide +kernel) (Nat.le_of_ble_eq_true rfl) ?_
  intro p e s m below meth co ls hx hb hr hlk hml hown hts hin hE hH hS hl
  have hl : lv_has ls 4 [(0, .ref a), (1, .int (nI (n + 1)))] := hl
  have hB : eB E ≤ s.heap.size := by rw [hH]; exact hE.2.1
  have hal := plt hO
  refine lv_aload_n hx hb dJx4a65c_grow_92f84_0 rfl (lv_at hl 0 rfl) ?_
  refine gf hx hb hts hown hE lkJx4a65c_9 hO rfl dJx4a65c_grow_92f84_1 ?_
  refine aLQ hx hb hE hA dJx4a65c_grow_92f84_4 ?_
  refine lv_istore_n (lv' := [(2, .int (nI n)), (0, .ref a), (1, .int (nI (n + 1)))]) hx hb dJx4a65c_grow_92f84_5 rfl hl (by decide) rfl (fun ls hl => ?_)
  refine lv_iload_n hx hb dJx4a65c_grow_92f84_6 rfl (lv_at hl 0 rfl) ?_
  refine lv_if_gt (tgt := 20) hx hb dJx4a65c_grow_92f84_7 (by decide) (fun c1 => ?_) (fun c1 => ?_)
  rotate_left
  · exact absurd (show nI 0 < nI n from nI_lt (by omega) (by omega)) c1
  refine lv_iload_n hx hb dJx4a65c_grow_92f84_20 rfl (lv_at hl 0 rfl) ?_
  refine lv_iload_n hx hb dJx4a65c_grow_92f84_21 rfl (lv_at hl 2 rfl) ?_
  refine lv_iload_n hx hb dJx4a65c_grow_92f84_22 rfl (lv_at hl 0 rfl) ?_
  refine lv_isub hx hb dJx4a65c_grow_92f84_23 ?_
  refine lv_iload_n hx hb dJx4a65c_grow_92f84_24 rfl (lv_at hl 0 rfl) ?_
  refine lv_iconst (v := 1) hx hb dJx4a65c_grow_92f84_25 (by decide) ?_
  rw [show nI (n + 1) - nI n = (1 : Int32) from (pk_sub (a := n + 1) (b := n) (by omega)).trans (by rw [Nat.add_sub_cancel_left]; rfl)]
  refine lv_ishr hx hb dJx4a65c_grow_92f84_26 ?_
  rw [ga_get rfl h2 hn4]
  refine pS hx hb hml hts hown hE kwJx4a65c_73 (c_newLen E n H h2 hn4) (Nat.le_of_ble_eq_true rfl) rfl hl.1 rfl (Nat.le_of_ble_eq_true rfl) (Nat.zero_le _) (Nat.zero_le _) dJx4a65c_grow_92f84_27 ?_
  refine lv_istore_n (lv' := [(3, .int (nI (n + n / 2))), (2, .int (nI n)), (0, .ref a), (1, .int (nI (n + 1)))]) hx hb dJx4a65c_grow_92f84_30 rfl hl (by decide) rfl (fun ls hl => ?_)
  refine lv_aload_n hx hb dJx4a65c_grow_92f84_31 rfl (lv_at hl 2 rfl) ?_
  refine lv_aload_n hx hb dJx4a65c_grow_92f84_32 rfl (lv_at hl 2 rfl) ?_
  refine gf hx hb hts hown hE lkJx4a65c_9 hO rfl dJx4a65c_grow_92f84_33 ?_
  refine lv_iload_n hx hb dJx4a65c_grow_92f84_36 rfl (lv_at hl 0 rfl) ?_
  refine gS hx hb hml hts hown hB hE hS kwJx4a65c_66 (c_copy2 E arr n (n + n / 2) ci f C T N H hA hg (by omega) (by omega) hc hca hel) (Nat.le_of_ble_eq_true rfl) rfl hl.1 rfl (Nat.le_of_ble_eq_true rfl) (by omega) (by omega) dJx4a65c_grow_92f84_37 (fun H1 L1 hG hz1 hE hS => ?_)
  obtain ⟨q, ea1⟩ : ∃ q, q = H.size := ⟨_, rfl⟩
  rw [← ea1] at hG ⊢
  obtain ⟨hN, hG2⟩ := hG
  have hF : FR (fun q => q = a) H H1 := FR.rf.tr hG2 (fun _ _ h => h.elim)
  have hO := hG2.at hO (fun h => h)
  refine lv_dup_x1 hx hb dJx4a65c_grow_92f84_40 rfl rfl ?_
  refine pf hx hb hts hown hE hS pkJx4a65c_9 rfl hO ha rfl rfl (Nat.le_of_ble_eq_true rfl) dJx4a65c_grow_92f84_41 (fun H2 L2 hO2 hz2 hq2 hE hS => ?_)
  have hO : OB E 0 [.int mo, .ref q, .int (nI n)] a H2 := hO2
  have hN := pk2 hN hq2 (by omega)
  have hF := hF.put hz2 hq2 (fun _ => rfl)
  exact cR hx hb hr (Or.inr ⟨_, rfl⟩) (Or.inr ⟨_, rfl⟩) hlk hB hS (by omega) (by omega) (⟨by first | rfl | rw [ea1], by first | exact hO | (rw [← ea1]; exact hO), by first | exact hN | (rw [← ea1]; exact hN), hF⟩) dJx4a65c_grow_92f84_44

set_option maxRecDepth 100000 in
set_option maxHeartbeats 4000000 in
/-- ArrayList.grow() of the empty array -/
theorem c_grow0A (E : ET) (a : Nat) (mo : Int32) (H : Heap) (hO : OB E 0 [.int mo, .ref (eF E), .int (nI 0)] a H) (ha : eB E ≤ a) : Con E yJx4a65c_grow_d5877 cJx4a65c_grow_d5877 1 (some (FieldType.array (FieldType.object "java/lang/Object"))) 5 1 10 [.ref a] H (o1 (some (.ref H.size)) (fun H' => OB E 0 [.int mo, .ref H.size, .int (nI 0)] a H' ∧ QA E 10 (fun _ => none) H.size H' ∧ FR (fun q => q = a) H H')) := by
  refine Con.of (C := RJx4a65c) rfl (by decide +kernel) (Nat.le_of_ble_eq_true rfl) ?_
  intro p e s m below meth co ls hx hb hr hlk hml hown hts hin hE hH hS hl
  have hl : lv_has ls 1 [(0, .ref a)] := hl
  have hB : eB E ≤ s.heap.size := by rw [hH]; exact hE.2.1
  refine lv_aload_n hx hb dJx4a65c_grow_d5877_0 rfl (lv_at hl 0 rfl) ?_
  refine lv_aload_n hx hb dJx4a65c_grow_d5877_1 rfl (lv_at hl 0 rfl) ?_
  refine gf hx hb hts hown hE lkJx4a65c_48 hO rfl dJx4a65c_grow_d5877_2 ?_
  refine lv_iconst (v := 1) hx hb dJx4a65c_grow_d5877_5 (by decide) ?_
  refine lv_iadd hx hb dJx4a65c_grow_d5877_6 ?_
  rw [show nI 0 + 1 = nI (0 + 1) from nI_1 0]
  refine gV hx hb hml hts hown hB hE hS kwJx4a65c_69 (c_growA E a 0 mo H hO ha) hO rfl (Nat.le_of_ble_eq_true rfl) rfl hl.1 rfl (Nat.le_of_ble_eq_true rfl) (by omega) (by omega) dJx4a65c_grow_d5877_7 (fun H1 L1 hG hz1 hE hS => ?_)
  exact cR hx hb hr (Or.inr ⟨_, rfl⟩) (Or.inr ⟨_, rfl⟩) hlk hB hS (by omega) (by omega) (⟨rfl, hG⟩) dJx4a65c_grow_d5877_10

set_option maxRecDepth 100000 in
set_option maxHeartbeats 4000000 in
/-- ArrayList.grow() of a full array -/
theorem c_grow0B (E : ET) (a arr n ci : Nat) (mo : Int32) (f : Nat → Option Nat) (C : String) (T : u_T) (N : Nat) (H : Heap) (hO : OB E 0 [.int mo, .ref arr, .int (nI n)] a H) (ha : eB E ≤ a) (hA : QA E n f arr H) (hg : eB E ≤ arr) (h2 : 2 ≤ n) (hn4 : n ≤ 40000) (hc : vwCl[ci]? = some (C, T, N)) (hca : (C, xO) ∈ casL) (hel : ∀ i, i < n → ∀ y, f i = some y → ∃ fs, OB E ci fs y H) : Con E yJx4a65c_grow_d5877 cJx4a65c_grow_d5877 1 (some (FieldType.array (FieldType.object "java/lang/Object"))) 5 1 (n + n / 2) [.ref a] H (o1 (some (.ref H.size)) (fun H' => OB E 0 [.int mo, .ref H.size, .int (nI n)] a H' ∧ QA E (n + n / 2) (va_cpy f (fun _ => none) 0 0 n) H.size H' ∧ FR (fun q => q = a) H H')) := by
  refine Con.of (C := RJx4a65c) rfl (by decide +kernel) (Nat.le_of_ble_eq_true rfl) ?_
  intro p e s m below meth co ls hx hb hr hlk hml hown hts hin hE hH hS hl
  have hl : lv_has ls 1 [(0, .ref a)] := hl
  have hB : eB E ≤ s.heap.size := by rw [hH]; exact hE.2.1
  refine lv_aload_n hx hb dJx4a65c_grow_d5877_0 rfl (lv_at hl 0 rfl) ?_
  refine lv_aload_n hx hb dJx4a65c_grow_d5877_1 rfl (lv_at hl 0 rfl) ?_
  refine gf hx hb hts hown hE lkJx4a65c_48 hO rfl dJx4a65c_grow_d5877_2 ?_
  refine lv_iconst (v := 1) hx hb dJx4a65c_grow_d5877_5 (by decide) ?_
  refine lv_iadd hx hb dJx4a65c_grow_d5877_6 ?_
  rw [show nI n + 1 = nI (n + 1) from nI_1 n]
  refine gV hx hb hml hts hown hB hE hS kwJx4a65c_69 (c_growB E a arr n ci mo f C T N H hO ha hA hg h2 hn4 hc hca hel) hO rfl (Nat.le_of_ble_eq_true rfl) rfl hl.1 rfl (Nat.le_of_ble_eq_true rfl) (by omega) (by omega) dJx4a65c_grow_d5877_7 (fun H1 L1 hG hz1 hE hS => ?_)
  exact cR hx hb hr (Or.inr ⟨_, rfl⟩) (Or.inr ⟨_, rfl⟩) hlk hB hS (by omega) (by omega) (⟨rfl, hG⟩) dJx4a65c_grow_d5877_10

set_option maxRecDepth 100000 in
set_option maxHeartbeats 4000000 in
/-- ArrayList.add(E, Object[], int) -/
theorem c_add3 (E : ET) (ow : Nat → Nat × Nat) (L a w c arr n : Nat) (mo : Int32) (f : Nat → Option Nat) (ad : Nat → Nat) (ci : Nat) (fw : List Value) (C : String) (T : u_T) (N : Nat) (H : Heap) (hO : OB E 0 [.int mo, .ref arr, .int (nI c)] a H) (hA : QB E n f arr H) (hcn : c ≤ n) (hn2 : n ≤ 2 * c + 10) (hf : ∀ i, i < c → f i = some (ad i)) (hoa : ow a = (L, 1)) (hga : eB E ≤ a) (har : (arr = eF E ∧ n = 0) ∨ (ow arr = (L, 2) ∧ eB E ≤ arr ∧ 2 ≤ n)) (hcb : c ≤ 10000) (hw : OB E ci fw w H) (hc : vwCl[ci]? = some (C, T, N)) (hca : (C, xO) ∈ casL) (hel : ∀ i, i < c → ∃ fs, OB E ci fs (ad i) H) (hwo : (ow w).2 ≠ 1 ∧ (ow w).2 ≠ 2) : Con E yJx4a65c_add_72be8 cJx4a65c_add_72be8 4 (none : Option FieldType) 6 1 (2 * c + 10) [.ref a, .ref w, .ref arr, .int (nI c)] H (o1 none (fun H' => LRo E (owx ow H (L, 2)) L a (c + 1) (va_up ad c w) H' ∧ FR (fun q => ow q = (L, 1) ∨ ow q = (L, 2)) H H')) := by
  refine Con.of (C := RJx4a65c) rfl (by decide +kernel) (Nat.le_of_ble_eq_true rfl) ?_
  intro p e s m below meth co ls hx hb hr hlk hml hown hts hin hE hH hS hl
  have hl : lv_has ls 4 [(0, .ref a), (1, .ref w), (2, .ref arr), (3, .int (nI c))] := hl
  have hA0 := hA
  have hB : eB E ≤ s.heap.size := by rw [hH]; exact hE.2.1
  have hwa : w ≠ a := fun e => hwo.1 (by rw [e, hoa])
  have hal := plt hO
  have hwl := plt hw
  refine lv_iload_n hx hb dJx4a65c_add_72be8_0 rfl (lv_at hl 3 rfl) ?_
  refine lv_aload_n hx hb dJx4a65c_add_72be8_1 rfl (lv_at hl 2 rfl) ?_
  refine aLB hx hb hE hA dJx4a65c_add_72be8_2 ?_
  refine lv_icmp_ne (tgt := 11) hx hb dJx4a65c_add_72be8_3 (by decide) (fun c1 => ?_) (fun c1 => ?_)
  · have hlt : c < n := by
      rcases Nat.lt_or_ge c n with q | q
      · exact q
      · exact absurd (by rw [Nat.le_antisymm hcn q]) c1
    have har2 : ow arr = (L, 2) ∧ eB E ≤ arr ∧ 2 ≤ n := har.resolve_left (fun q => by omega)
    have hgr := har2.2.1
    have hroom := hlt
    have hna : a ≠ arr := fun e => by rw [e, har2.1] at hoa; cases hoa
    have hnw : w ≠ arr := fun e => hwo.2 (by rw [e, har2.1])
    have hma : arr < H.size → ow arr = (L, 1) ∨ ow arr = (L, 2) := fun _ => Or.inr har2.1
    have hF : FR (fun q => ow q = (L, 1) ∨ ow q = (L, 2)) H H := FR.rf
    have hA := hA.qa (by omega)
    refine lv_aload_n hx hb dJx4a65c_add_72be8_11 rfl (lv_at hl 2 rfl) ?_
    refine lv_iload_n hx hb dJx4a65c_add_72be8_12 rfl (lv_at hl 3 rfl) ?_
    refine lv_aload_n hx hb dJx4a65c_add_72be8_13 rfl (lv_at hl 1 rfl) ?_
    refine asQ hx hb hE hS hA hgr  hw hc hca rfl hroom (by omega) dJx4a65c_add_72be8_14 (fun H1 L1 hO1 hz1 hq1 hE hS => ?_)
    have hA : QA E n (va_up (f) c (some w)) arr H1 := hO1
    have hO := pk2 hO hq1 hna
    have hw := pk2 hw hq1 hnw
    have hF := hF.put hz1 hq1 hma
    refine lv_aload_n hx hb dJx4a65c_add_72be8_15 rfl (lv_at hl 0 rfl) ?_
    refine lv_iload_n hx hb dJx4a65c_add_72be8_16 rfl (lv_at hl 3 rfl) ?_
    refine lv_iconst (v := 1) hx hb dJx4a65c_add_72be8_17 (by decide) ?_
    refine lv_iadd hx hb dJx4a65c_add_72be8_18 ?_
    rw [show nI c + 1 = nI (c + 1) from nI_1 c]
    refine pf hx hb hts hown hE hS pkJx4a65c_48 rfl hO hga rfl rfl (Nat.le_of_ble_eq_true rfl) dJx4a65c_add_72be8_19 (fun H2 L2 hO2 hz2 hq2 hE hS => ?_)
    have hO : OB E 0 [.int mo, .ref arr, .int (nI (c + 1))] a H2 := hO2
    have hA := pk2 hA hq2 (fun e => hna e.symm)
    have hw := pk2 hw hq2 hwa
    have hF := hF.put hz2 hq2 (fun _ => Or.inl hoa)
    have har9 := hA0.lt
    refine cU hx hb hr hlk hB hS (by omega) (by omega) ⟨rfl, ⟨mo, arr, n, _, hO, QB.of hA, hlt, by omega, fun i hi => add_get hf i hi, by rw [owx_old hal]; exact hoa, hga, Or.inr ⟨by rw [owx_old har9]; exact har2.1, hgr, har2.2.2⟩⟩, hF⟩ dJx4a65c_add_72be8_22
  · have hcn2 : c = n := (nI_eq (by omega) (by omega)).mp c1
    subst hcn2
    rcases har with ⟨ea, e0⟩ | har2
    · subst ea e0
      refine lv_aload_n hx hb dJx4a65c_add_72be8_6 rfl (lv_at hl 0 rfl) ?_
      refine gV hx hb hml hts hown hB hE hS kwJx4a65c_129 (c_grow0A E a mo H hO hga) hO rfl (Nat.le_of_ble_eq_true rfl) rfl hl.1 rfl (Nat.le_of_ble_eq_true rfl) (by omega) (by omega) dJx4a65c_add_72be8_7 (fun H1 L1 hG hz1 hE hS => ?_)
      obtain ⟨q, ea1⟩ : ∃ q, q = H.size := ⟨_, rfl⟩
      rw [← ea1] at hG ⊢
      obtain ⟨hO, hA, hG2⟩ := hG
      have hF : FR (fun q => ow q = (L, 1) ∨ ow q = (L, 2)) H H1 := FR.rf.tr hG2 (fun z _ h => by rw [h]; exact Or.inl hoa)
      have hw := hG2.at hw hwa
      have hgr : eB E ≤ q := by have := hH ▸ hB; omega
      have hna : a ≠ q := by omega
      have hnw : w ≠ q := by omega
      have hma : q < H.size → ow q = (L, 1) ∨ ow q = (L, 2) := fun h => by omega
      have hroom : 0 < 10 := by decide
      refine lv_astore_n (lv' := [(2, .ref q), (0, .ref a), (1, .ref w), (3, .int (nI 0))]) hx hb dJx4a65c_add_72be8_10 rfl hl (by decide) rfl (fun ls hl => ?_)
      refine lv_aload_n hx hb dJx4a65c_add_72be8_11 rfl (lv_at hl 0 rfl) ?_
      refine lv_iload_n hx hb dJx4a65c_add_72be8_12 rfl (lv_at hl 3 rfl) ?_
      refine lv_aload_n hx hb dJx4a65c_add_72be8_13 rfl (lv_at hl 2 rfl) ?_
      refine asQ hx hb hE hS hA hgr  hw hc hca rfl hroom (by omega) dJx4a65c_add_72be8_14 (fun H2 L2 hO2 hz2 hq2 hE hS => ?_)
      have hA : QA E 10 (va_up (fun _ => none) 0 (some w)) q H2 := hO2
      have hO := pk2 hO hq2 hna
      have hw := pk2 hw hq2 hnw
      have hF := hF.put hz2 hq2 hma
      refine lv_aload_n hx hb dJx4a65c_add_72be8_15 rfl (lv_at hl 1 rfl) ?_
      refine lv_iload_n hx hb dJx4a65c_add_72be8_16 rfl (lv_at hl 3 rfl) ?_
      refine lv_iconst (v := 1) hx hb dJx4a65c_add_72be8_17 (by decide) ?_
      refine lv_iadd hx hb dJx4a65c_add_72be8_18 ?_
      rw [show nI 0 + 1 = nI (0 + 1) from nI_1 0]
      refine pf hx hb hts hown hE hS pkJx4a65c_48 rfl hO hga rfl rfl (Nat.le_of_ble_eq_true rfl) dJx4a65c_add_72be8_19 (fun H3 L3 hO3 hz3 hq3 hE hS => ?_)
      have hO : OB E 0 [.int mo, .ref q, .int (nI (0 + 1))] a H3 := hO3
      have hA := pk2 hA hq3 (fun e => hna e.symm)
      have hw := pk2 hw hq3 hwa
      have hF := hF.put hz3 hq3 (fun _ => Or.inl hoa)
      exact cU hx hb hr hlk hB hS (by omega) (by omega) ⟨rfl, ⟨mo, q, 10, _, hO, QB.of hA, by omega, by omega, fun i hi => add_get (c := 0) (fun i hi => absurd hi (Nat.not_lt_zero i)) i hi, by rw [owx_old hal]; exact hoa, hga, Or.inr ⟨owx_new (by omega), hgr, by decide⟩⟩, hF⟩ dJx4a65c_add_72be8_22
    · refine lv_aload_n hx hb dJx4a65c_add_72be8_6 rfl (lv_at hl 0 rfl) ?_
      refine gV hx hb hml hts hown hB hE hS kwJx4a65c_129 (c_grow0B E a arr c ci mo f C T N H hO hga (hA.qa (by have := har2.2.2; omega)) har2.2.1 har2.2.2 (by omega) hc hca (fun i hi y hy => by rw [hf i hi] at hy; cases hy; exact hel i hi)) hO rfl (Nat.le_of_ble_eq_true rfl) rfl hl.1 rfl (Nat.le_of_ble_eq_true rfl) (by omega) (by omega) dJx4a65c_add_72be8_7 (fun H1 L1 hG hz1 hE hS => ?_)
      obtain ⟨q, ea1⟩ : ∃ q, q = H.size := ⟨_, rfl⟩
      rw [← ea1] at hG ⊢
      obtain ⟨hO, hA, hG2⟩ := hG
      have hF : FR (fun q => ow q = (L, 1) ∨ ow q = (L, 2)) H H1 := FR.rf.tr hG2 (fun z _ h => by rw [h]; exact Or.inl hoa)
      have hw := hG2.at hw hwa
      have hgr : eB E ≤ q := by have := hH ▸ hB; omega
      have hna : a ≠ q := by omega
      have hnw : w ≠ q := by omega
      have hma : q < H.size → ow q = (L, 1) ∨ ow q = (L, 2) := fun h => by omega
      have hroom : c < c + c / 2 := by have := har2.2.2; omega
      refine lv_astore_n (lv' := [(2, .ref q), (0, .ref a), (1, .ref w), (3, .int (nI c))]) hx hb dJx4a65c_add_72be8_10 rfl hl (by decide) rfl (fun ls hl => ?_)
      refine lv_aload_n hx hb dJx4a65c_add_72be8_11 rfl (lv_at hl 0 rfl) ?_
      refine lv_iload_n hx hb dJx4a65c_add_72be8_12 rfl (lv_at hl 3 rfl) ?_
      refine lv_aload_n hx hb dJx4a65c_add_72be8_13 rfl (lv_at hl 2 rfl) ?_
      refine asQ hx hb hE hS hA hgr  hw hc hca rfl hroom (by omega) dJx4a65c_add_72be8_14 (fun H2 L2 hO2 hz2 hq2 hE hS => ?_)
      have hA : QA E (c + c / 2) (va_up (va_cpy f (fun _ => none) 0 0 c) c (some w)) q H2 := hO2
      have hO := pk2 hO hq2 hna
      have hw := pk2 hw hq2 hnw
      have hF := hF.put hz2 hq2 hma
      refine lv_aload_n hx hb dJx4a65c_add_72be8_15 rfl (lv_at hl 1 rfl) ?_
      refine lv_iload_n hx hb dJx4a65c_add_72be8_16 rfl (lv_at hl 3 rfl) ?_
      refine lv_iconst (v := 1) hx hb dJx4a65c_add_72be8_17 (by decide) ?_
      refine lv_iadd hx hb dJx4a65c_add_72be8_18 ?_
      rw [show nI c + 1 = nI (c + 1) from nI_1 c]
      refine pf hx hb hts hown hE hS pkJx4a65c_48 rfl hO hga rfl rfl (Nat.le_of_ble_eq_true rfl) dJx4a65c_add_72be8_19 (fun H3 L3 hO3 hz3 hq3 hE hS => ?_)
      have hO : OB E 0 [.int mo, .ref q, .int (nI (c + 1))] a H3 := hO3
      have hA := pk2 hA hq3 (fun e => hna e.symm)
      have hw := pk2 hw hq3 hwa
      have hF := hF.put hz3 hq3 (fun _ => Or.inl hoa)
      exact cU hx hb hr hlk hB hS (by omega) (by omega) ⟨rfl, ⟨mo, q, c + c / 2, _, hO, QB.of hA, by omega, by omega, fun i hi => add_get (fun i hi => (pk_cpy_in (Nat.zero_le _) (by omega)).trans (by rw [Nat.zero_add, Nat.sub_zero]; exact hf i hi)) i hi, by rw [owx_old hal]; exact hoa, hga, Or.inr ⟨owx_new (by omega), hgr, by have := har2.2.2; omega⟩⟩, hF⟩ dJx4a65c_add_72be8_22

set_option maxRecDepth 100000 in
set_option maxHeartbeats 4000000 in
/-- ArrayList.add -/
theorem c_add (E : ET) (ow : Nat → Nat × Nat) (L a w c : Nat) (ad : Nat → Nat) (ci : Nat) (fw : List Value) (C : String) (T : u_T) (N : Nat) (H : Heap) (h : LRo E ow L a c ad H) (hcb : c ≤ 10000) (hw : OB E ci fw w H) (hc : vwCl[ci]? = some (C, T, N)) (hca : (C, xO) ∈ casL) (hel : ∀ i, i < c → ∃ fs, OB E ci fs (ad i) H) (hwo : (ow w).2 ≠ 1 ∧ (ow w).2 ≠ 2) (hela : ∀ i, i < c → ad i ≠ a) : Con E yJx4a65c_add_9ea2d cJx4a65c_add_9ea2d 2 (some FieldType.boolean) 7 1 (2 * c + 10) [.ref a, .ref w] H (o1 (some (.int 1)) (fun H' => LRo E (owx ow H (L, 2)) L a (c + 1) (va_up ad c w) H' ∧ FR (fun q => ow q = (L, 1) ∨ ow q = (L, 2)) H H')) := by
  refine Con.of (C := RJx4a65c) rfl (by decide +kernel) (Nat.le_of_ble_eq_true rfl) ?_
  intro p e s m below meth co ls hx hb hr hlk hml hown hts hin hE hH hS hl
  have hl : lv_has ls 2 [(0, .ref a), (1, .ref w)] := hl
  have hB : eB E ≤ s.heap.size := by rw [hH]; exact hE.2.1
  obtain ⟨mo, arr, n, f, hO, hA, hcn, hn2, hf, hoa, hga, har⟩ := h
  have hwa : w ≠ a := fun e => hwo.1 (by rw [e, hoa])
  have hra : arr ≠ a := fun e => har.elim (fun q => by have := hE.2.2.1; omega) (fun q => by rw [e, hoa] at q; cases q.1)
  refine lv_aload_n hx hb dJx4a65c_add_9ea2d_0 rfl (lv_at hl 0 rfl) ?_
  refine lv_dup hx hb dJx4a65c_add_9ea2d_1 rfl ?_
  refine gf hx hb hts hown hE lkJx4a65c_63 hO rfl dJx4a65c_add_9ea2d_2 ?_
  refine lv_iconst (v := 1) hx hb dJx4a65c_add_9ea2d_5 (by decide) ?_
  refine lv_iadd hx hb dJx4a65c_add_9ea2d_6 ?_
  have hF : FR (fun q => ow q = (L, 1) ∨ ow q = (L, 2)) H H := FR.rf
  refine pf hx hb hts hown hE hS pkJx4a65c_63 rfl hO hga rfl rfl (Nat.le_of_ble_eq_true rfl) dJx4a65c_add_9ea2d_7 (fun H1 L1 hO1 hz1 hq1 hE hS => ?_)
  have hO : OB E 0 [.int (mo + 1), .ref arr, .int (nI c)] a H1 := hO1
  have hw := pk2 hw hq1 hwa
  have hF := hF.put hz1 hq1 (fun _ => Or.inl hoa)
  have hA := hA.pk (hq1 arr hra)
  refine lv_aload_n hx hb dJx4a65c_add_9ea2d_10 rfl (lv_at hl 0 rfl) ?_
  refine lv_aload_n hx hb dJx4a65c_add_9ea2d_11 rfl (lv_at hl 1 rfl) ?_
  refine lv_aload_n hx hb dJx4a65c_add_9ea2d_12 rfl (lv_at hl 0 rfl) ?_
  refine gf hx hb hts hown hE lkJx4a65c_9 hO rfl dJx4a65c_add_9ea2d_13 ?_
  refine lv_aload_n hx hb dJx4a65c_add_9ea2d_16 rfl (lv_at hl 0 rfl) ?_
  refine gf hx hb hts hown hE lkJx4a65c_48 hO rfl dJx4a65c_add_9ea2d_17 ?_
  refine gVU hx hb hml hts hown hB hE hS kwJx4a65c_131 (c_add3 E ow L a w c arr n _ f ad ci fw C T N H1 hO hA hcn hn2 hf hoa hga har hcb hw hc hca (fun i hi => ?_) hwo) hO rfl (Nat.le_of_ble_eq_true rfl) rfl hl.1 rfl (Nat.le_of_ble_eq_true rfl) (by omega) (by omega) dJx4a65c_add_9ea2d_20 (fun H2 L2 hG hz2 hE hS => ?_)
  · obtain ⟨fs, ho⟩ := hel i hi
    by_cases q : ad i = a
    · exact absurd q (hela i hi)
    · exact ⟨fs, pk2 ho hq1 q⟩
  obtain ⟨hG1, hG2⟩ := hG
  refine lv_iconst (v := 1) hx hb dJx4a65c_add_9ea2d_23 (by decide) ?_
  exact cZ hx hb hr hlk hB hS (by omega) (by omega) (Or.inr rfl) ⟨rfl, by rw [← owx_size hz1]; exact hG1, hF.tr hG2 (fun _ _ h => h)⟩ dJx4a65c_add_9ea2d_24
