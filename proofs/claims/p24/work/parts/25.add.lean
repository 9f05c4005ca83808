theorem pkJx4a65c_9 : PK RJx4a65c 9 RJx4a65c TJx4a65c 3 0 1 "java/util/ArrayList" tyJx4a65c := ⟨lkJx4a65c_9, tyJx4a65c_ok, nmJx4a65c⟩
theorem pkJx4a65c_48 : PK RJx4a65c 48 RJx4a65c TJx4a65c 3 0 2 "java/util/ArrayList" tyJx4a65c := ⟨lkJx4a65c_48, tyJx4a65c_ok, nmJx4a65c⟩
theorem pkJxc12de_7 : PK RJxc12de 7 RJx4a65c TJx4a65c 3 0 0 "java/util/AbstractList" tyJx4a65c := ⟨lkJxc12de_7, tyJx4a65c_ok, nmJx4a65c⟩
theorem pkJx4a65c_63 : PK RJx4a65c 63 RJx4a65c TJx4a65c 3 0 0 "java/util/ArrayList" tyJx4a65c := ⟨lkJx4a65c_63, tyJx4a65c_ok, nmJx4a65c⟩
theorem pkX1_12 : PK RX1 12 RX1 TX1 1 2 0 "Resetline$Diary" tyX1 := ⟨lkX1_12, tyX1_ok, nmX1⟩
theorem pkX0_12 : PK RX0 12 RX0 TX0 2 1 0 "Resetline$Calendar" tyX0 := ⟨lkX0_12, tyX0_ok, nmX0⟩
theorem pkX0_18 : PK RX0 18 RX0 TX0 2 1 1 "Resetline$Calendar" tyX0 := ⟨lkX0_18, tyX0_ok, nmX0⟩
theorem pkX4_10 : PK RX4 10 RX4 TX4 3 5 0 "Resetline" tyX4 := ⟨lkX4_10, tyX4_ok, nmX4⟩
theorem pkX4_19 : PK RX4 19 RX4 TX4 3 5 1 "Resetline" tyX4 := ⟨lkX4_19, tyX4_ok, nmX4⟩
theorem pkX4_26 : PK RX4 26 RX4 TX4 3 5 2 "Resetline" tyX4 := ⟨lkX4_26, tyX4_ok, nmX4⟩
theorem pkX2_7 : PK RX2 7 RX2 TX2 2 3 0 "Resetline$Entry" tyX2 := ⟨lkX2_7, tyX2_ok, nmX2⟩
theorem pkX1_45 : PK RX1 45 RX2 TX2 2 3 0 "Resetline$Entry" tyX2 := ⟨lkX1_45, tyX2_ok, nmX2⟩
theorem pkX2_13 : PK RX2 13 RX2 TX2 2 3 1 "Resetline$Entry" tyX2 := ⟨lkX2_13, tyX2_ok, nmX2⟩
theorem pkX1_37 : PK RX1 37 RX2 TX2 2 3 1 "Resetline$Entry" tyX2 := ⟨lkX1_37, tyX2_ok, nmX2⟩
theorem pkX3_9 : PK RX3 9 RX3 TX3 13 4 0 "Resetline$Swap" tyX3 := ⟨lkX3_9, tyX3_ok, nmX3⟩
theorem pkX3_15 : PK RX3 15 RX3 TX3 13 4 1 "Resetline$Swap" tyX3 := ⟨lkX3_15, tyX3_ok, nmX3⟩
theorem pkX3_18 : PK RX3 18 RX3 TX3 13 4 2 "Resetline$Swap" tyX3 := ⟨lkX3_18, tyX3_ok, nmX3⟩
theorem pkX3_22 : PK RX3 22 RX3 TX3 13 4 3 "Resetline$Swap" tyX3 := ⟨lkX3_22, tyX3_ok, nmX3⟩
theorem pkX3_25 : PK RX3 25 RX3 TX3 13 4 4 "Resetline$Swap" tyX3 := ⟨lkX3_25, tyX3_ok, nmX3⟩
theorem pkX3_28 : PK RX3 28 RX3 TX3 13 4 5 "Resetline$Swap" tyX3 := ⟨lkX3_28, tyX3_ok, nmX3⟩
theorem pkX3_31 : PK RX3 31 RX3 TX3 13 4 6 "Resetline$Swap" tyX3 := ⟨lkX3_31, tyX3_ok, nmX3⟩
theorem pkX4_190 : PK RX4 190 RX3 TX3 13 4 6 "Resetline$Swap" tyX3 := ⟨lkX4_190, tyX3_ok, nmX3⟩
theorem pkX3_34 : PK RX3 34 RX3 TX3 13 4 7 "Resetline$Swap" tyX3 := ⟨lkX3_34, tyX3_ok, nmX3⟩
theorem pkX3_37 : PK RX3 37 RX3 TX3 13 4 8 "Resetline$Swap" tyX3 := ⟨lkX3_37, tyX3_ok, nmX3⟩
theorem pkX3_40 : PK RX3 40 RX3 TX3 13 4 9 "Resetline$Swap" tyX3 := ⟨lkX3_40, tyX3_ok, nmX3⟩
theorem pkX3_46 : PK RX3 46 RX3 TX3 13 4 10 "Resetline$Swap" tyX3 := ⟨lkX3_46, tyX3_ok, nmX3⟩
theorem pkX4_106 : PK RX4 106 RX3 TX3 13 4 10 "Resetline$Swap" tyX3 := ⟨lkX4_106, tyX3_ok, nmX3⟩
theorem pkX3_50 : PK RX3 50 RX3 TX3 13 4 11 "Resetline$Swap" tyX3 := ⟨lkX3_50, tyX3_ok, nmX3⟩
theorem pkX4_126 : PK RX4 126 RX3 TX3 13 4 11 "Resetline$Swap" tyX3 := ⟨lkX4_126, tyX3_ok, nmX3⟩
theorem pkX3_53 : PK RX3 53 RX3 TX3 13 4 12 "Resetline$Swap" tyX3 := ⟨lkX3_53, tyX3_ok, nmX3⟩
theorem nkX4_7 : NK RX4 7 RX0 TX0 2 1 tyX0 := ⟨iwX0, rfl, qw1_29, qw1_30, qw1_2, tyX0_ok⟩
theorem nkX0_9 : NK RX0 9 RX1 TX1 1 2 tyX1 := ⟨iwX1, rfl, qw1_35, qw1_36, qw1_3, tyX1_ok⟩
theorem nkX1_9 : NK RX1 9 RJx4a65c TJx4a65c 3 0 tyJx4a65c := ⟨iwJx4a65c, rfl, qw1_41, qw1_42, qw1_6, tyJx4a65c_ok⟩
theorem nkX4_16 : NK RX4 16 RX1 TX1 1 2 tyX1 := ⟨iwX1, rfl, qw1_78, qw1_36, qw1_3, tyX1_ok⟩
theorem nkX4_23 : NK RX4 23 RJx4a65c TJx4a65c 3 0 tyJx4a65c := ⟨iwJx4a65c, rfl, qw1_80, qw1_42, qw1_6, tyJx4a65c_ok⟩
theorem nkX1_26 : NK RX1 26 RX2 TX2 2 3 tyX2 := ⟨iwX2, rfl, qw1_217, qw1_238, qw1_20, tyX2_ok⟩
theorem nkX4_90 : NK RX4 90 RX3 TX3 13 4 tyX3 := ⟨iwX3, rfl, qw2_74, qw2_120, qw1_13, tyX3_ok⟩
theorem nkX3_43 : NK RX3 43 RX1 TX1 1 2 tyX1 := ⟨iwX1, rfl, qw2_125, qw1_36, qw1_3, tyX1_ok⟩
theorem qnGC : Cond.native ⟨"java/lang/Object", "getClass", "()Ljava/lang/Class;"⟩ ∈ Tw := tw2 53 rfl rfl
theorem qnAC : Cond.native arraycopyName ∈ Tw := tw2 65 rfl rfl
/-- an ArrayList of c elements, as its writer sees it: L its label -/
def LRo (E : ET) (ow : Nat → Nat × Nat) (L a c : Nat) (ad : Nat → Nat) (H : Heap) : Prop := ∃ (mo : Int32) (arr n : Nat) (f : Nat → Option Nat), OB E 0 [.int mo, .ref arr, .int (nI c)] a H ∧ QB E n f arr H ∧ c ≤ n ∧ n ≤ 2 * c + 10 ∧ (∀ i, i < c → f i = some (ad i)) ∧ ow a = (L, 1) ∧ eB E ≤ a ∧ ((arr = eF E ∧ n = 0) ∨ (ow arr = (L, 2) ∧ eB E ≤ arr ∧ 2 ≤ n))
theorem LRo.LR {E : ET} {ow : Nat → Nat × Nat} {L a c : Nat} {ad : Nat → Nat} {H : Heap} (h : LRo E ow L a c ad H) (hc : c < 2 ^ 29) : LR E a c ad H := by
  obtain ⟨mo, arr, n, f, h1, h2, h3, h4, h5, -⟩ := h
  exact ⟨mo, arr, n, f, h1, h2, h3, by omega, h5⟩
/-- new cells get the label -/
def owx (ow : Nat → Nat × Nat) (H : Heap) (x : Nat × Nat) : Nat → Nat × Nat := fun q => if q < H.size then ow q else x
theorem owx_old {ow : Nat → Nat × Nat} {H : Heap} {x : Nat × Nat} {q : Nat} (h : q < H.size) : owx ow H x q = ow q := if_pos h
theorem owx_new {ow : Nat → Nat × Nat} {H : Heap} {x : Nat × Nat} {q : Nat} (h : H.size ≤ q) : owx ow H x q = x := if_neg (Nat.not_lt.mpr h)
theorem ga_get {n c : Nat} (hn : c = n) (h2 : 2 ≤ n) (hb : n ≤ 40000) : (nI n >>> ((1 : Int32) &&& 31)) = nI (n / 2) := by
  have k := pk_shrN (n := n) (by omega) ((1 : Int32) &&& 31) 1 (by decide)
  rw [Nat.pow_one] at k
  exact k
set_option maxRecDepth 100000 in
set_option maxHeartbeats 4000000 in
/-- ArraysSupport.newLength -/
theorem c_newLen (E : ET) (n : Nat) (H : Heap) (h2 : 2 ≤ n) (hb9 : n ≤ 40000) : PCon E yJ8_newLength_cabcc cJ8_newLength_cabcc 4 (some FieldType.int) 2 [.int (nI n), .int 1, .int (nI (n / 2))] H (some (.int (nI (n + n / 2)))) := by
  refine PCon.of (C := RJ8) rfl (by decide +kernel) (Nat.le_of_ble_eq_true rfl) ?_
  intro p e s m below meth co ls hx hb hr hlk hml hown hts hE hH hl
  have hl : lv_has ls 4 [(0, .int (nI n)), (1, .int 1), (2, .int (nI (n / 2)))] := hl
  refine lv_iload_n hx hb dJ8_newLength_cabcc_0 rfl (lv_at hl 0 rfl) ?_
  refine lv_iload_n hx hb dJ8_newLength_cabcc_1 rfl (lv_at hl 1 rfl) ?_
  refine lv_iload_n hx hb dJ8_newLength_cabcc_2 rfl (lv_at hl 2 rfl) ?_
  refine va_mmax hx hb (by rw [hml]; exact hl.1.symm) hown (hts _ qw2_31) (hts _ qw2_32) (hts _ qw1_14) (hts _ qw2_33) (Nat.le_of_ble_eq_true rfl) (by show _ ≤ 80; simp [Value.category]) (Nat.le_refl _) (Nat.le_refl _) dJ8_newLength_cabcc_3 ?_
  have em : (if (1 : Int32) < nI (n / 2) then nI (n / 2) else 1) = nI (n / 2) := by
    by_cases c : 1 < n / 2
    · rw [if_pos (show (1 : Int32) < nI (n / 2) from nI_lt (a := 1) c (by omega))]
    · rw [if_neg (show ¬ (1 : Int32) < nI (n / 2) from nI_nlt (b := n / 2) (a := 1) (by omega) (by decide))]; have : n / 2 = 1 := by omega
      rw [this]; rfl
  rw [em]
  refine lv_iadd hx hb dJ8_newLength_cabcc_6 ?_
  rw [nI_add n (n / 2)]
  refine lv_istore_n (lv' := [(3, .int (nI (n + n / 2))), (0, .int (nI n)), (1, .int 1), (2, .int (nI (n / 2)))]) hx hb dJ8_newLength_cabcc_7 rfl hl (by decide) rfl (fun ls hl => ?_)
  refine lv_iconst (v := 0) hx hb dJ8_newLength_cabcc_8 (by decide) ?_
  refine lv_iload_n hx hb dJ8_newLength_cabcc_9 rfl (lv_at hl 0 rfl) ?_
  refine lv_icmp_ge (tgt := 21) hx hb dJ8_newLength_cabcc_10 (by decide) (fun c => ?_) (fun c => ?_)
  · exact absurd c (show ¬ nI (n + n / 2) ≤ nI 0 from nI_ge (by omega) (by omega))
  refine lv_iload_n hx hb dJ8_newLength_cabcc_13 rfl (lv_at hl 0 rfl) ?_
  refine lv_ldc (v := 2147483639) hx hb hown (hts _ qw2_34) dJ8_newLength_cabcc_14 ?_
  refine lv_icmp_gt (tgt := 21) hx hb dJ8_newLength_cabcc_16 (by decide) (fun c => ?_) (fun c => ?_)
  · exact absurd c (show ¬ nI 2147483639 < nI (n + n / 2) from nI_nlt (by omega) (by decide))
  refine lv_iload_n hx hb dJ8_newLength_cabcc_19 rfl (lv_at hl 0 rfl) ?_
  exact pI hx hb hr hlk hH rfl dJ8_newLength_cabcc_20

set_option maxRecDepth 100000 in
set_option maxHeartbeats 4000000 in
/-- Arrays.copyOf of references, by the class -/
theorem c_copy3 (E : ET) (arr n n2 ci : Nat) (f : Nat → Option Nat) (C : String) (T : u_T) (N : Nat) (H : Heap) (hA : QA E n f arr H) (hg : eB E ≤ arr) (hn : n ≤ n2) (hn2 : n2 ≤ 90000) (hc : vwCl[ci]? = some (C, T, N)) (hca : (C, xO) ∈ casL) (hel : ∀ i, i < n → ∀ y, f i = some y → ∃ fs, OB E ci fs y H) : Con E yJ7_copyOf_6403c cJ7_copyOf_6403c 4 (some (FieldType.array (FieldType.object "java/lang/Object"))) 2 1 n2 [.ref arr, .int (nI n2), .ref (eM E)] H (o1 (some (.ref H.size)) (fun H' => QA E n2 (va_cpy f (fun _ => none) 0 0 n) H.size H' ∧ FR (fun _ => False) H H')) := by
  refine Con.of (C := RJ7) rfl (by decide +kernel) (Nat.le_of_ble_eq_true rfl) ?_
  intro p e s m below meth co ls hx hb hr hlk hml hown hts hin hE hH hS hl
  have hl : lv_has ls 4 [(0, .ref arr), (1, .int (nI n2)), (2, .ref (eM E))] := hl
  have hB : eB E ≤ s.heap.size := by rw [hH]; exact hE.2.1
  refine lv_aload_n hx hb dJ7_copyOf_6403c_0 rfl (lv_at hl 2 rfl) ?_
  refine va_ldcM hx hb hown (hts _ qw2_57) hE.2.2.2.2.2.2.2.2.2.2.2.1 dJ7_copyOf_6403c_1 ?_
  refine lv_acmp_ne (rx := some (eM E)) (ry := some (eM E)) (tgt := 13) hx hb dJ7_copyOf_6403c_3 (by decide) (fun c => absurd rfl c) (fun _ => ?_)
  refine lv_iload_n hx hb dJ7_copyOf_6403c_6 rfl (lv_at hl 1 rfl) ?_
  refine naQ hx hb hts hown hE hS qw2_59 rfl (by omega) (by omega) (by omega) dJ7_copyOf_6403c_7 (fun q H1 ea1 hN hz1 hq1 hE hS hg1 => ?_)
  have hA1 := pk3 hA hq1
  refine lv_goto (tgt := 24) hx hb dJ7_copyOf_6403c_10 (by decide) ?_
  refine lv_astore_n (lv' := [(3, .ref q), (0, .ref arr), (1, .int (nI n2)), (2, .ref (eM E))]) hx hb dJ7_copyOf_6403c_24 rfl hl (by decide) rfl (fun ls hl => ?_)
  refine lv_aload_n hx hb dJ7_copyOf_6403c_25 rfl (lv_at hl 1 rfl) ?_
  refine lv_iconst (v := 0) hx hb dJ7_copyOf_6403c_26 (by decide) ?_
  refine lv_aload_n hx hb dJ7_copyOf_6403c_27 rfl (lv_at hl 0 rfl) ?_
  refine lv_iconst (v := 0) hx hb dJ7_copyOf_6403c_28 (by decide) ?_
  refine lv_aload_n hx hb dJ7_copyOf_6403c_29 rfl (lv_at hl 1 rfl) ?_
  refine aLQ hx hb hE hA1 dJ7_copyOf_6403c_30 ?_
  refine lv_iload_n hx hb dJ7_copyOf_6403c_31 rfl (lv_at hl 2 rfl) ?_
  refine va_mmin hx hb (by rw [hml]; exact hl.1.symm) hown (hts _ qw2_60) (hts _ qw2_61) (hts _ qw1_14) (hts _ qw2_62) (Nat.le_of_ble_eq_true rfl) (by show _ ≤ 80; simp [Value.category]) (by show 0 + 1 ≤ 1; omega) (by show 0 + n2 ≤ n2; omega) dJ7_copyOf_6403c_32 ?_
  generalize hv : (if nI n2 < nI n then nI n2 else nI n) = v
  have hv : v = nI n := by rw [← hv, if_neg (nI_nlt hn (by omega))]
  subst hv
  have hP : va_P (eD E) vwCl [(arr, .inl (eA E 2, n, .inr (.inr (.inr (.inr f))))), (q, .inl (eA E 2, n2, .inr (.inr (.inr (.inr (fun _ => none))))))] H1 := hA1.app hN
  have hne : arr ≠ q := by have := plt hA; omega
  have hD : va_D (fun z : Nat => H.size ≤ z ∨ z = arr) [(arr, .inl (eA E 2, n, .inr (.inr (.inr (.inr f))))), (q, .inl (eA E 2, n2, .inr (.inr (.inr (.inr (fun _ => none))))))] := by
    refine ⟨fun i j x y hi hj he => ?_, fun k x hk => ?_⟩
    · match i, j, hi, hj with
      | 0, 0, _, _ => rfl
      | 1, 1, _, _ => rfl
      | 0, 1, hi, hj => cases hi; cases hj; exact absurd he hne
      | 1, 0, hi, hj => cases hi; cases hj; exact absurd he.symm hne
      | i + 2, _, hi, _ => simp at hi
      | _, j + 2, _, hj => simp at hj
    · match k, hk with
      | 0, hk => cases hk; exact Or.inr rfl
      | 1, hk => cases hk; exact Or.inl (by omega)
      | k + 2, hk => simp at hk
  have hSq : va_S (fun z : Nat => H.size ≤ z ∨ z = arr) s.heap H1 [] := ⟨by rw [hH]; omega, fun z hz _ => by rw [hH] at hz ⊢; exact hq1 z hz, fun z hz => by cases hz⟩
  refine va_copyq (C := C) (E0 := xO) (E1 := xO) hx hb (by rw [hml]; exact hl.1.symm) hown (hts _ qw2_63) (hts _ qnAC) (hts _ qw2_64) (hts _ qw1_19) hE.K hP hD hSq 0 1 2 2 rfl rfl rfl rfl (show ¬ (0 : Int32) < 0 by decide) (show ¬ (0 : Int32) < 0 by decide) (nI_pos (by omega)) (by rw [nI_clamp (by omega), sb_cl0]; omega) (by rw [nI_clamp (by omega), sb_cl0]; omega) (fun i hi y hy => ?_) (fun comp c0 f1 f2 => ?_) (Nat.le_of_ble_eq_true rfl) (by show _ ≤ 80; simp only [nativeFrameWords]; decide) dJ7_copyOf_6403c_35 (fun H2 L2 hP2 hD2 hS2 => ?_)
  · rw [nI_clamp (by omega)] at hi
    rw [sb_cl0, Nat.zero_add] at hy
    obtain ⟨fs, hO⟩ := hel i hi y hy
    exact recv9 hE (pk3 hO hq1) hc
  · have hcaN : va_Nw (.castable C xO) s := hE.2.2.2.2.2.2.2.2.2.1 (C, xO) hca
    obtain ⟨k0, t1, g1, g2, g3⟩ := Cond.castable_spec (va_Nw.use (A := #[]) rfl hcaN)
    cases g1.symm.trans f2
    cases g2.symm.trans f1
    exact g3
  rw [nI_clamp (show n < 2 ^ 31 by omega), sb_cl0] at hP2
  have hF : FR (fun _ => False) H H2 := by
    refine ⟨Nat.le_trans (Nat.le_of_eq (by rw [hH])) hS2.1, fun z hz _ => ?_⟩
    by_cases hza : z = arr
    · rw [hza]; exact (hP2 0 _ rfl).trans (hA 0 _ rfl).symm
    · have := hS2.2.1 z (by rw [hH]; exact hz) (fun h => h.elim (fun h => by omega) hza)
      rw [hH] at this; exact this
  have hS : va_S (fr E) s.heap H2 L2 := ⟨hS2.1, fun z hz _ => by rw [hH] at hz ⊢; exact hF.2 z hz (fun h => h), fun z hz => (hS2.2.2 z hz).elim (fun h => Nat.le_trans hB (by rw [hH]; exact h)) (fun h => by rw [h]; exact hg)⟩
  refine lv_aload_n hx hb dJ7_copyOf_6403c_38 rfl (lv_at hl 0 rfl) ?_
  exact cR hx hb hr (Or.inr ⟨_, rfl⟩) (Or.inr ⟨_, rfl⟩) hlk hB hS (by omega) (by omega) (⟨by rw [ea1], by rw [← ea1]; exact one9 (hP2 1 _ rfl), hF⟩) dJ7_copyOf_6403c_39

set_option maxRecDepth 100000 in
set_option maxHeartbeats 4000000 in
/-- Arrays.copyOf of references -/
theorem c_copy2 (E : ET) (arr n n2 ci : Nat) (f : Nat → Option Nat) (C : String) (T : u_T) (N : Nat) (H : Heap) (hA : QA E n f arr H) (hg : eB E ≤ arr) (hn : n ≤ n2) (hn2 : n2 ≤ 90000) (hc : vwCl[ci]? = some (C, T, N)) (hca : (C, xO) ∈ casL) (hel : ∀ i, i < n → ∀ y, f i = some y → ∃ fs, OB E ci fs y H) : Con E yJ7_copyOf_1904c cJ7_copyOf_1904c 2 (some (FieldType.array (FieldType.object "java/lang/Object"))) 3 1 n2 [.ref arr, .int (nI n2)] H (o1 (some (.ref H.size)) (fun H' => QA E n2 (va_cpy f (fun _ => none) 0 0 n) H.size H' ∧ FR (fun _ => False) H H')) := by
  refine Con.of (C := RJ7) rfl (by decide +kernel) (Nat.le_of_ble_eq_true rfl) ?_
  intro p e s m below meth co ls hx hb hr hlk hml hown hts hin hE hH hS hl
  have hl : lv_has ls 2 [(0, .ref arr), (1, .int (nI n2))] := hl
  have hB : eB E ≤ s.heap.size := by rw [hH]; exact hE.2.1
  refine lv_aload_n hx hb dJ7_copyOf_1904c_0 rfl (lv_at hl 0 rfl) ?_
  refine lv_iload_n hx hb dJ7_copyOf_1904c_1 rfl (lv_at hl 1 rfl) ?_
  refine lv_aload_n hx hb dJ7_copyOf_1904c_2 rfl (lv_at hl 0 rfl) ?_
  have hmi := hE.2.2.2.2.2.2.2.2.2.2.2.1
  refine va_getC (C := "[Ljava/lang/Object;") hx hb (by rw [hml]; exact hl.1.symm) hown (hts _ qw2_41) (va_Dc.use hE.2.2.2.2.2.2.2.2.2.2.2.2.1) (hts _ qw3_101) (hts _ qw2_42) (hts _ qnGC) hmi ⟨_, hA 0 _ rfl, rfl, va_nmO (hE.K.2 2 _ rfl).2 rfl⟩ (Nat.le_of_ble_eq_true rfl) (by show _ ≤ 120; simp [Value.category]) dJ7_copyOf_1904c_3 ?_
  refine gS hx hb hml hts hown hB hE hS kwJ7_300 (c_copy3 E arr n n2 ci f C T N H hA hg hn hn2 hc hca hel) (Nat.le_of_ble_eq_true rfl) rfl hl.1 rfl (Nat.le_of_ble_eq_true rfl) (by omega) (by omega) dJ7_copyOf_1904c_6 (fun H1 L1 hG hz1 hE hS => ?_)
  exact cR hx hb hr (Or.inr ⟨_, rfl⟩) (Or.inr ⟨_, rfl⟩) hlk hB hS (by omega) (by omega) (⟨rfl, hG⟩) dJ7_copyOf_1904c_9
