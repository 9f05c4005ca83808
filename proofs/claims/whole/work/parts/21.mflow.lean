/-- the flows of the first k periods of a trade, one by one added to v -/
def sumK (h0 h1 fx : Dy) (pa d1 d2 : Int32) (tr : TR) (v : Int64) : Nat → Int64
  | 0 => v
  | k + 1 => sumK h0 h1 fx pa d1 d2 tr v k + (if inB (bfC h0 h1 tr.1 (k + 1)) d1 d2 = true ∧ hldS tr.1 tr.2.2 (bfC h0 h1 tr.1 (k + 1)) = pa then flwS tr.1 tr.2.1 (bfC h0 h1 tr.1) fx k else 0)
def sumS (h0 h1 fx : Dy) (pa d1 d2 : Int32) : Int64 → List TR → Int64
  | v, [] => v
  | v, tr :: us => sumS h0 h1 fx pa d1 d2 (sumK h0 h1 fx pa d1 d2 tr v (tr.1 6).toNatClampNeg) us
set_option maxRecDepth 100000 in
set_option maxHeartbeats 4000000 in
/-- floats -/
theorem c_mfloats (E : ET) (x : Nat) (sc : Nat → Int32) (ad : Nat → Nat) (ar : Nat → Nat → Int32) (h0 h1 fx : Dy) (ts : List TR) (B : BK) (t : Nat) (tr : TR) (k n : Nat) (H : Heap) (hX : MX E x sc ad ar H) (hI : MI sc ar h0 h1 fx ts B) (hV : SV h0 h1 fx ts) (ht : ts[t]? = some tr) (hn : tr.1 6 = nI n) (hnp : n ≤ 10) (hk : k < n) : PCon E yX5_floats cX5_floats 16 (some FieldType.long) 5 [.ref x, .int (nI t), .int (nI k)] H (some (.long (fltS tr.1 (bfC h0 h1 tr.1) fx k))) := by
  refine PCon.of (C := RX5) rfl (by decide +kernel) (Nat.le_of_ble_eq_true rfl) ?_
  intro p e s m below meth co ls hx hb hr hlk hml hown hts hE hH hl
  have hl : lv_has ls 16 [(0, .ref x), (1, .int (nI t)), (2, .int (nI k))] := hl
  have hA16 : IA E 10 (ar 16) (ad 16) H := hX.2 16 rfl
  have hA14 : IA E 10 (ar 14) (ad 14) H := hX.2 14 rfl
  have htl_ : t < 10 := by
    have := (List.getElem?_eq_some_iff.mp ht).1
    have := hV.2.2.2.2.2.2.2.1
    omega
  obtain ⟨pa_, lo_, f_, le_, n_, v1_, v2_, v3_, v4_, v5_, v6_, v7_, v8_, t0_, t1_, t2_, t4_, t5_, t6_, t8_, t9_, tb_, th_⟩ := hV.2.2.2.2.2.2.2.2 tr (List.mem_of_getElem? ht)
  have hF_ : ∀ j, j < 10 → ar (7 + j) t = tr.1 j := hI.2.2.2.2.2.1 t tr ht
  have h9 := t9_
  refine lv_lconst (v := 0) hx hb dX5_floats_0 (by decide) ?_
  refine lv_lstore_n (lv' := [(3, .long 0), (0, .ref x), (1, .int (nI t)), (2, .int (nI k))]) hx hb dX5_floats_1 rfl hl (by decide) rfl (fun ls hl => ?_)
  refine lv_lconst (v := 0) hx hb dX5_floats_2 (by decide) ?_
  refine lv_lstore (lv' := [(5, .long 0), (3, .long 0), (0, .ref x), (1, .int (nI t)), (2, .int (nI k))]) hx hb dX5_floats_3 hl (by decide) rfl (fun ls hl => ?_)
  refine lv_iconst (v := 0) hx hb dX5_floats_5 (by decide) ?_
  refine lv_istore (lv' := [(7, .int 0), (5, .long 0), (3, .long 0), (0, .ref x), (1, .int (nI t)), (2, .int (nI k))]) hx hb dX5_floats_6 hl (by decide) rfl (fun ls hl => ?_)
  have loop : ∀ (q i : Nat) (v cc : Int64) (ls : Array Slot), i + q = k + 1 → cc = (flS tr.1 (bfC h0 h1 tr.1) fx i).1 → (∀ j, i = j + 1 → v = (flS tr.1 (bfC h0 h1 tr.1) fx (j + 1)).2) → lv_has ls 16 [(7, .int (nI i)), (5, .long v), (3, .long cc), (0, .ref x), (1, .int (nI t)), (2, .int (nI k))] → W p (eL E) e (rmk 5 0 0) s m ([.ref x, .int (nI t), .int (nI k)]).toArray below meth co H [] 0 0 (MQ below (PQ (some (.long (fltS tr.1 (bfC h0 h1 tr.1) fx k)))) ([.ref x, .int (nI t), .int (nI k)]).toArray s 0 0 (fun _ => False)) (F0 m 8 ls []) := by
    intro q
    induction q with
    | zero =>
      intro i v cc ls hi hc hv9 hl
      have hi2 : i = k + 1 := by omega
      subst hi2
      refine lv_iload hx hb dX5_floats_8 (lv_at hl 0 rfl) ?_
      refine lv_iload_n hx hb dX5_floats_10 rfl (lv_at hl 5 rfl) ?_
      refine lv_icmp_gt (tgt := 150) hx hb dX5_floats_11 (by decide) (fun c3 => ?_) (fun c3 => ?_)
      rotate_left
      · exact absurd (show nI k < nI (k + 1) from nI_lt (by omega) (by omega)) c3
      refine lv_lload hx hb dX5_floats_150 (lv_at hl 1 rfl) ?_
      exact pL hx hb hr hlk hH (hv9 k rfl) dX5_floats_152
    | succ q ih =>
      intro i v cc ls hi hc hv9 hl
      refine lv_iload hx hb dX5_floats_8 (lv_at hl 0 rfl) ?_
      refine lv_iload_n hx hb dX5_floats_10 rfl (lv_at hl 5 rfl) ?_
      refine lv_icmp_gt (tgt := 150) hx hb dX5_floats_11 (by decide) (fun c3 => ?_) (fun c3 => ?_)
      · exact absurd c3 (nI_nlt (by omega) (by omega))
      refine lv_aload_n hx hb dX5_floats_14 rfl (lv_at hl 3 rfl) ?_
      refine lv_aload_n hx hb dX5_floats_15 rfl (lv_at hl 3 rfl) ?_
      refine lv_iload_n hx hb dX5_floats_16 rfl (lv_at hl 4 rfl) ?_
      refine lv_iload hx hb dX5_floats_17 (lv_at hl 0 rfl) ?_
      refine pV hx hb hml hts hown hE kwX5_128 (c_beg E x sc ad ar h0 h1 fx ts B t tr i n H hX hI hV ht hn hnp (by omega)) hX.1 rfl (Nat.le_of_ble_eq_true rfl) rfl hl.1 rfl (Nat.le_of_ble_eq_true rfl) (Nat.le_refl _) (Nat.le_refl _) dX5_floats_19 ?_
      have eb : bfC h0 h1 tr.1 i = nI (rol h0 h1 (f_ + i * le_)) := bfC_eq t4_ t5_ hn (by omega) (by omega) (by omega) (by omega)
      have ebl : rol h0 h1 (f_ + i * le_) < 2 ^ 31 := by have := rol_le h0 h1 (f_ + i * le_); have : i * le_ ≤ 10 * 180 := Nat.mul_le_mul (by omega) (by omega); omega
      have hM := c_mrate E x sc ad ar h0 h1 fx ts B (rol h0 h1 (f_ + i * le_)) H hX hI hV ebl
      rw [← eb] at hM
      refine pV hx hb hml hts hown hE kwX5_102 hM hX.1 rfl (Nat.le_of_ble_eq_true rfl) rfl hl.1 rfl (Nat.le_of_ble_eq_true rfl) (Nat.le_refl _) (Nat.le_refl _) dX5_floats_22 ?_
      refine lv_i2l hx hb dX5_floats_25 rfl ?_
      refine lv_lstore (lv' := [(8, .long ((dLast fx (bfC h0 h1 tr.1 i) 0).toInt64)), (7, .int (nI i)), (5, .long v), (3, .long cc), (0, .ref x), (1, .int (nI t)), (2, .int (nI k))]) hx hb dX5_floats_26 hl (by decide) rfl (fun ls hl => ?_)
      refine lv_aload_n hx hb dX5_floats_28 rfl (lv_at hl 4 rfl) ?_
      refine lv_iload_n hx hb dX5_floats_29 rfl (lv_at hl 5 rfl) ?_
      refine lv_iload hx hb dX5_floats_30 (lv_at hl 1 rfl) ?_
      refine pV hx hb hml hts hown hE kwX5_138 (c_mdays E x sc ad ar h0 h1 fx ts B t tr i n H hX hI hV ht hn hnp (by omega)) hX.1 rfl (Nat.le_of_ble_eq_true rfl) rfl hl.1 rfl (Nat.le_of_ble_eq_true rfl) (Nat.le_refl _) (Nat.le_refl _) dX5_floats_32 ?_
      refine lv_i2l hx hb dX5_floats_35 rfl ?_
      refine lv_lstore (lv' := [(10, .long ((dysI tr.1 (bfC h0 h1 tr.1) i).toInt64)), (8, .long ((dLast fx (bfC h0 h1 tr.1 i) 0).toInt64)), (7, .int (nI i)), (5, .long v), (3, .long cc), (0, .ref x), (1, .int (nI t)), (2, .int (nI k))]) hx hb dX5_floats_36 hl (by decide) rfl (fun ls hl => ?_)
      refine lv_aload_n hx hb dX5_floats_38 rfl (lv_at hl 5 rfl) ?_
      refine gf hx hb hts hown hE lkX5_50 hX.1 rfl dX5_floats_39 ?_
      refine lv_iload_n hx hb dX5_floats_42 rfl (lv_at hl 6 rfl) ?_
      refine aI hx hb hE hA16 rfl htl_ (by omega) (hF_ 9 (by omega)) dX5_floats_43 ?_
      refine lv_iconst (v := 1) hx hb dX5_floats_44 (by decide) ?_
      refine lv_icmp_ne (tgt := 61) hx hb dX5_floats_45 (by decide) (fun c1 => ?_) (fun c1 => ?_)
      · by_cases d9 : tr.1 9 = 0
        · refine lv_lload hx hb dX5_floats_61 (lv_at hl 1 rfl) ?_
          refine lv_lstore (lv' := [(12, .long ((dLast fx (bfC h0 h1 tr.1 i) 0).toInt64)), (10, .long ((dysI tr.1 (bfC h0 h1 tr.1) i).toInt64)), (8, .long ((dLast fx (bfC h0 h1 tr.1 i) 0).toInt64)), (7, .int (nI i)), (5, .long v), (3, .long cc), (0, .ref x), (1, .int (nI t)), (2, .int (nI k))]) hx hb dX5_floats_63 hl (by decide) rfl (fun ls hl => ?_)
          refine lv_ldc2 (v := 3600000) hx hb hown (hts _ qw4_140) dX5_floats_65 ?_
          refine lv_lload_n hx hb dX5_floats_68 rfl (lv_at hl 5 rfl) ?_
          refine lv_ladd hx hb dX5_floats_69 ?_
          refine lv_lload hx hb dX5_floats_70 (lv_at hl 0 rfl) ?_
          refine lv_lmul hx hb dX5_floats_72 ?_
          refine lv_lload hx hb dX5_floats_73 (lv_at hl 1 rfl) ?_
          refine lv_lmul hx hb dX5_floats_75 ?_
          refine lv_ldc2 (v := 3600000) hx hb hown (hts _ qw4_140) dX5_floats_76 ?_
          refine pS hx hb hml hts hown hE kwX5_143 (c_floor E (((3600000 + cc) * (dLast fx (bfC h0 h1 tr.1 i) 0).toInt64) * (dysI tr.1 (bfC h0 h1 tr.1) i).toInt64) H) (Nat.le_of_ble_eq_true rfl) rfl hl.1 rfl (Nat.le_of_ble_eq_true rfl) (Nat.le_refl _) (Nat.le_refl _) dX5_floats_79 ?_
          refine lv_lstore (lv' := [(14, .long (flo (((3600000 + cc) * (dLast fx (bfC h0 h1 tr.1 i) 0).toInt64) * (dysI tr.1 (bfC h0 h1 tr.1) i).toInt64))), (12, .long ((dLast fx (bfC h0 h1 tr.1 i) 0).toInt64)), (10, .long ((dysI tr.1 (bfC h0 h1 tr.1) i).toInt64)), (8, .long ((dLast fx (bfC h0 h1 tr.1 i) 0).toInt64)), (7, .int (nI i)), (5, .long v), (3, .long cc), (0, .ref x), (1, .int (nI t)), (2, .int (nI k))]) hx hb dX5_floats_82 hl (by decide) rfl (fun ls hl => ?_)
          refine lv_aload_n hx hb dX5_floats_84 rfl (lv_at hl 7 rfl) ?_
          refine gf hx hb hts hown hE lkX5_50 hX.1 rfl dX5_floats_85 ?_
          refine lv_iload_n hx hb dX5_floats_88 rfl (lv_at hl 8 rfl) ?_
          refine aI hx hb hE hA16 rfl htl_ (by omega) (hF_ 9 (by omega)) dX5_floats_89 ?_
          refine lv_if_ne (tgt := 109) hx hb dX5_floats_90 (by decide) (fun c7 => ?_) (fun c7 => ?_)
          · exact absurd d9 c7
          refine lv_lload hx hb dX5_floats_93 (lv_at hl 3 rfl) ?_
          refine lv_aload_n hx hb dX5_floats_95 rfl (lv_at hl 7 rfl) ?_
          refine gf hx hb hts hown hE lkX5_44 hX.1 rfl dX5_floats_96 ?_
          refine lv_iload_n hx hb dX5_floats_99 rfl (lv_at hl 8 rfl) ?_
          refine aI hx hb hE hA14 rfl htl_ (by omega) (hF_ 7 (by omega)) dX5_floats_100 ?_
          refine lv_i2l hx hb dX5_floats_101 rfl ?_
          refine lv_ladd hx hb dX5_floats_102 ?_
          refine lv_lload hx hb dX5_floats_103 (lv_at hl 2 rfl) ?_
          refine lv_lmul hx hb dX5_floats_105 ?_
          refine lv_goto (tgt := 137) hx hb dX5_floats_106 (by decide) ?_
          refine lv_lstore (lv' := [(5, .long (((dLast fx (bfC h0 h1 tr.1 i) 0).toInt64 + (tr.1 7).toInt64) * (dysI tr.1 (bfC h0 h1 tr.1) i).toInt64)), (14, .long (flo (((3600000 + cc) * (dLast fx (bfC h0 h1 tr.1 i) 0).toInt64) * (dysI tr.1 (bfC h0 h1 tr.1) i).toInt64))), (12, .long ((dLast fx (bfC h0 h1 tr.1 i) 0).toInt64)), (10, .long ((dysI tr.1 (bfC h0 h1 tr.1) i).toInt64)), (8, .long ((dLast fx (bfC h0 h1 tr.1 i) 0).toInt64)), (7, .int (nI i)), (3, .long cc), (0, .ref x), (1, .int (nI t)), (2, .int (nI k))]) hx hb dX5_floats_137 hl (by decide) rfl (fun ls hl => ?_)
          refine lv_lload_n hx hb dX5_floats_139 rfl (lv_at hl 6 rfl) ?_
          refine lv_lload hx hb dX5_floats_140 (lv_at hl 1 rfl) ?_
          refine lv_ladd hx hb dX5_floats_142 ?_
          refine lv_lstore_n (lv' := [(3, .long (cc + (flo (((3600000 + cc) * (dLast fx (bfC h0 h1 tr.1 i) 0).toInt64) * (dysI tr.1 (bfC h0 h1 tr.1) i).toInt64)))), (5, .long (((dLast fx (bfC h0 h1 tr.1 i) 0).toInt64 + (tr.1 7).toInt64) * (dysI tr.1 (bfC h0 h1 tr.1) i).toInt64)), (14, .long (flo (((3600000 + cc) * (dLast fx (bfC h0 h1 tr.1 i) 0).toInt64) * (dysI tr.1 (bfC h0 h1 tr.1) i).toInt64))), (12, .long ((dLast fx (bfC h0 h1 tr.1 i) 0).toInt64)), (10, .long ((dysI tr.1 (bfC h0 h1 tr.1) i).toInt64)), (8, .long ((dLast fx (bfC h0 h1 tr.1 i) 0).toInt64)), (7, .int (nI i)), (0, .ref x), (1, .int (nI t)), (2, .int (nI k))]) hx hb dX5_floats_143 rfl hl (by decide) rfl (fun ls hl => ?_)
          refine lv_iinc (v := nI (i + 1)) (lv' := [(7, .int (nI (i + 1))), (3, .long (cc + (flo (((3600000 + cc) * (dLast fx (bfC h0 h1 tr.1 i) 0).toInt64) * (dysI tr.1 (bfC h0 h1 tr.1) i).toInt64)))), (5, .long (((dLast fx (bfC h0 h1 tr.1 i) 0).toInt64 + (tr.1 7).toInt64) * (dysI tr.1 (bfC h0 h1 tr.1) i).toInt64)), (14, .long (flo (((3600000 + cc) * (dLast fx (bfC h0 h1 tr.1 i) 0).toInt64) * (dysI tr.1 (bfC h0 h1 tr.1) i).toInt64))), (12, .long ((dLast fx (bfC h0 h1 tr.1 i) 0).toInt64)), (10, .long ((dysI tr.1 (bfC h0 h1 tr.1) i).toInt64)), (8, .long ((dLast fx (bfC h0 h1 tr.1 i) 0).toInt64)), (0, .ref x), (1, .int (nI t)), (2, .int (nI k))]) hx hb dX5_floats_144 hl (k := 6) rfl (nI_1 i) (by decide) rfl (fun ls hl => ?_)
          refine lv_goto (tgt := 8) hx hb dX5_floats_147 (by decide) ?_
          exact ih (i + 1) (((dLast fx (bfC h0 h1 tr.1 i) 0).toInt64 + (tr.1 7).toInt64) * (dysI tr.1 (bfC h0 h1 tr.1) i).toInt64) (cc + (flo (((3600000 + cc) * (dLast fx (bfC h0 h1 tr.1 i) 0).toInt64) * (dysI tr.1 (bfC h0 h1 tr.1) i).toInt64))) ls (by omega) (by rw [hc]; simp only [flS, rte, dysI_l]; rw [if_neg c1]) (fun j hj => by cases hj; (try rw [hc]); simp only [flS, rte, dysI_l]; rw [if_pos d9]) (lv_sub hl [0, 2, 1, 7, 8, 9] rfl)
        · refine lv_lload hx hb dX5_floats_61 (lv_at hl 1 rfl) ?_
          refine lv_lstore (lv' := [(12, .long ((dLast fx (bfC h0 h1 tr.1 i) 0).toInt64)), (10, .long ((dysI tr.1 (bfC h0 h1 tr.1) i).toInt64)), (8, .long ((dLast fx (bfC h0 h1 tr.1 i) 0).toInt64)), (7, .int (nI i)), (5, .long v), (3, .long cc), (0, .ref x), (1, .int (nI t)), (2, .int (nI k))]) hx hb dX5_floats_63 hl (by decide) rfl (fun ls hl => ?_)
          refine lv_ldc2 (v := 3600000) hx hb hown (hts _ qw4_140) dX5_floats_65 ?_
          refine lv_lload_n hx hb dX5_floats_68 rfl (lv_at hl 5 rfl) ?_
          refine lv_ladd hx hb dX5_floats_69 ?_
          refine lv_lload hx hb dX5_floats_70 (lv_at hl 0 rfl) ?_
          refine lv_lmul hx hb dX5_floats_72 ?_
          refine lv_lload hx hb dX5_floats_73 (lv_at hl 1 rfl) ?_
          refine lv_lmul hx hb dX5_floats_75 ?_
          refine lv_ldc2 (v := 3600000) hx hb hown (hts _ qw4_140) dX5_floats_76 ?_
          refine pS hx hb hml hts hown hE kwX5_143 (c_floor E (((3600000 + cc) * (dLast fx (bfC h0 h1 tr.1 i) 0).toInt64) * (dysI tr.1 (bfC h0 h1 tr.1) i).toInt64) H) (Nat.le_of_ble_eq_true rfl) rfl hl.1 rfl (Nat.le_of_ble_eq_true rfl) (Nat.le_refl _) (Nat.le_refl _) dX5_floats_79 ?_
          refine lv_lstore (lv' := [(14, .long (flo (((3600000 + cc) * (dLast fx (bfC h0 h1 tr.1 i) 0).toInt64) * (dysI tr.1 (bfC h0 h1 tr.1) i).toInt64))), (12, .long ((dLast fx (bfC h0 h1 tr.1 i) 0).toInt64)), (10, .long ((dysI tr.1 (bfC h0 h1 tr.1) i).toInt64)), (8, .long ((dLast fx (bfC h0 h1 tr.1 i) 0).toInt64)), (7, .int (nI i)), (5, .long v), (3, .long cc), (0, .ref x), (1, .int (nI t)), (2, .int (nI k))]) hx hb dX5_floats_82 hl (by decide) rfl (fun ls hl => ?_)
          refine lv_aload_n hx hb dX5_floats_84 rfl (lv_at hl 7 rfl) ?_
          refine gf hx hb hts hown hE lkX5_50 hX.1 rfl dX5_floats_85 ?_
          refine lv_iload_n hx hb dX5_floats_88 rfl (lv_at hl 8 rfl) ?_
          refine aI hx hb hE hA16 rfl htl_ (by omega) (hF_ 9 (by omega)) dX5_floats_89 ?_
          refine lv_if_ne (tgt := 109) hx hb dX5_floats_90 (by decide) (fun c7 => ?_) (fun c7 => ?_)
          rotate_left
          · exact absurd c7 d9
          refine lv_aload_n hx hb dX5_floats_109 rfl (lv_at hl 7 rfl) ?_
          refine gf hx hb hts hown hE lkX5_50 hX.1 rfl dX5_floats_110 ?_
          refine lv_iload_n hx hb dX5_floats_113 rfl (lv_at hl 8 rfl) ?_
          refine aI hx hb hE hA16 rfl htl_ (by omega) (hF_ 9 (by omega)) dX5_floats_114 ?_
          refine lv_iconst (v := 1) hx hb dX5_floats_115 (by decide) ?_
          refine lv_icmp_ne (tgt := 124) hx hb dX5_floats_116 (by decide) (fun c8 => ?_) (fun c8 => ?_)
          rotate_left
          · exact absurd c8 c1
          refine lv_lload hx hb dX5_floats_124 (lv_at hl 0 rfl) ?_
          refine lv_aload_n hx hb dX5_floats_126 rfl (lv_at hl 7 rfl) ?_
          refine gf hx hb hts hown hE lkX5_44 hX.1 rfl dX5_floats_127 ?_
          refine lv_iload_n hx hb dX5_floats_130 rfl (lv_at hl 8 rfl) ?_
          refine aI hx hb hE hA14 rfl htl_ (by omega) (hF_ 7 (by omega)) dX5_floats_131 ?_
          refine lv_i2l hx hb dX5_floats_132 rfl ?_
          refine lv_lload hx hb dX5_floats_133 (lv_at hl 2 rfl) ?_
          refine lv_lmul hx hb dX5_floats_135 ?_
          refine lv_ladd hx hb dX5_floats_136 ?_
          refine lv_lstore (lv' := [(5, .long ((flo (((3600000 + cc) * (dLast fx (bfC h0 h1 tr.1 i) 0).toInt64) * (dysI tr.1 (bfC h0 h1 tr.1) i).toInt64)) + ((tr.1 7).toInt64 * (dysI tr.1 (bfC h0 h1 tr.1) i).toInt64))), (14, .long (flo (((3600000 + cc) * (dLast fx (bfC h0 h1 tr.1 i) 0).toInt64) * (dysI tr.1 (bfC h0 h1 tr.1) i).toInt64))), (12, .long ((dLast fx (bfC h0 h1 tr.1 i) 0).toInt64)), (10, .long ((dysI tr.1 (bfC h0 h1 tr.1) i).toInt64)), (8, .long ((dLast fx (bfC h0 h1 tr.1 i) 0).toInt64)), (7, .int (nI i)), (3, .long cc), (0, .ref x), (1, .int (nI t)), (2, .int (nI k))]) hx hb dX5_floats_137 hl (by decide) rfl (fun ls hl => ?_)
          refine lv_lload_n hx hb dX5_floats_139 rfl (lv_at hl 6 rfl) ?_
          refine lv_lload hx hb dX5_floats_140 (lv_at hl 1 rfl) ?_
          refine lv_ladd hx hb dX5_floats_142 ?_
          refine lv_lstore_n (lv' := [(3, .long (cc + (flo (((3600000 + cc) * (dLast fx (bfC h0 h1 tr.1 i) 0).toInt64) * (dysI tr.1 (bfC h0 h1 tr.1) i).toInt64)))), (5, .long ((flo (((3600000 + cc) * (dLast fx (bfC h0 h1 tr.1 i) 0).toInt64) * (dysI tr.1 (bfC h0 h1 tr.1) i).toInt64)) + ((tr.1 7).toInt64 * (dysI tr.1 (bfC h0 h1 tr.1) i).toInt64))), (14, .long (flo (((3600000 + cc) * (dLast fx (bfC h0 h1 tr.1 i) 0).toInt64) * (dysI tr.1 (bfC h0 h1 tr.1) i).toInt64))), (12, .long ((dLast fx (bfC h0 h1 tr.1 i) 0).toInt64)), (10, .long ((dysI tr.1 (bfC h0 h1 tr.1) i).toInt64)), (8, .long ((dLast fx (bfC h0 h1 tr.1 i) 0).toInt64)), (7, .int (nI i)), (0, .ref x), (1, .int (nI t)), (2, .int (nI k))]) hx hb dX5_floats_143 rfl hl (by decide) rfl (fun ls hl => ?_)
          refine lv_iinc (v := nI (i + 1)) (lv' := [(7, .int (nI (i + 1))), (3, .long (cc + (flo (((3600000 + cc) * (dLast fx (bfC h0 h1 tr.1 i) 0).toInt64) * (dysI tr.1 (bfC h0 h1 tr.1) i).toInt64)))), (5, .long ((flo (((3600000 + cc) * (dLast fx (bfC h0 h1 tr.1 i) 0).toInt64) * (dysI tr.1 (bfC h0 h1 tr.1) i).toInt64)) + ((tr.1 7).toInt64 * (dysI tr.1 (bfC h0 h1 tr.1) i).toInt64))), (14, .long (flo (((3600000 + cc) * (dLast fx (bfC h0 h1 tr.1 i) 0).toInt64) * (dysI tr.1 (bfC h0 h1 tr.1) i).toInt64))), (12, .long ((dLast fx (bfC h0 h1 tr.1 i) 0).toInt64)), (10, .long ((dysI tr.1 (bfC h0 h1 tr.1) i).toInt64)), (8, .long ((dLast fx (bfC h0 h1 tr.1 i) 0).toInt64)), (0, .ref x), (1, .int (nI t)), (2, .int (nI k))]) hx hb dX5_floats_144 hl (k := 6) rfl (nI_1 i) (by decide) rfl (fun ls hl => ?_)
          refine lv_goto (tgt := 8) hx hb dX5_floats_147 (by decide) ?_
          exact ih (i + 1) ((flo (((3600000 + cc) * (dLast fx (bfC h0 h1 tr.1 i) 0).toInt64) * (dysI tr.1 (bfC h0 h1 tr.1) i).toInt64)) + ((tr.1 7).toInt64 * (dysI tr.1 (bfC h0 h1 tr.1) i).toInt64)) (cc + (flo (((3600000 + cc) * (dLast fx (bfC h0 h1 tr.1 i) 0).toInt64) * (dysI tr.1 (bfC h0 h1 tr.1) i).toInt64))) ls (by omega) (by rw [hc]; simp only [flS, rte, dysI_l]; rw [if_neg c1]) (fun j hj => by cases hj; (try rw [hc]); simp only [flS, rte, dysI_l]; rw [if_neg d9, if_neg c1, if_neg c1]) (lv_sub hl [0, 2, 1, 7, 8, 9] rfl)
      · have d9 : ¬ tr.1 9 = 0 := by rw [c1]; decide
        refine lv_lload hx hb dX5_floats_48 (lv_at hl 1 rfl) ?_
        refine lv_aload_n hx hb dX5_floats_50 rfl (lv_at hl 5 rfl) ?_
        refine gf hx hb hts hown hE lkX5_44 hX.1 rfl dX5_floats_51 ?_
        refine lv_iload_n hx hb dX5_floats_54 rfl (lv_at hl 6 rfl) ?_
        refine aI hx hb hE hA14 rfl htl_ (by omega) (hF_ 7 (by omega)) dX5_floats_55 ?_
        refine lv_i2l hx hb dX5_floats_56 rfl ?_
        refine lv_ladd hx hb dX5_floats_57 ?_
        refine lv_goto (tgt := 63) hx hb dX5_floats_58 (by decide) ?_
        refine lv_lstore (lv' := [(12, .long ((dLast fx (bfC h0 h1 tr.1 i) 0).toInt64 + (tr.1 7).toInt64)), (10, .long ((dysI tr.1 (bfC h0 h1 tr.1) i).toInt64)), (8, .long ((dLast fx (bfC h0 h1 tr.1 i) 0).toInt64)), (7, .int (nI i)), (5, .long v), (3, .long cc), (0, .ref x), (1, .int (nI t)), (2, .int (nI k))]) hx hb dX5_floats_63 hl (by decide) rfl (fun ls hl => ?_)
        refine lv_ldc2 (v := 3600000) hx hb hown (hts _ qw4_140) dX5_floats_65 ?_
        refine lv_lload_n hx hb dX5_floats_68 rfl (lv_at hl 5 rfl) ?_
        refine lv_ladd hx hb dX5_floats_69 ?_
        refine lv_lload hx hb dX5_floats_70 (lv_at hl 0 rfl) ?_
        refine lv_lmul hx hb dX5_floats_72 ?_
        refine lv_lload hx hb dX5_floats_73 (lv_at hl 1 rfl) ?_
        refine lv_lmul hx hb dX5_floats_75 ?_
        refine lv_ldc2 (v := 3600000) hx hb hown (hts _ qw4_140) dX5_floats_76 ?_
        refine pS hx hb hml hts hown hE kwX5_143 (c_floor E (((3600000 + cc) * ((dLast fx (bfC h0 h1 tr.1 i) 0).toInt64 + (tr.1 7).toInt64)) * (dysI tr.1 (bfC h0 h1 tr.1) i).toInt64) H) (Nat.le_of_ble_eq_true rfl) rfl hl.1 rfl (Nat.le_of_ble_eq_true rfl) (Nat.le_refl _) (Nat.le_refl _) dX5_floats_79 ?_
        refine lv_lstore (lv' := [(14, .long (flo (((3600000 + cc) * ((dLast fx (bfC h0 h1 tr.1 i) 0).toInt64 + (tr.1 7).toInt64)) * (dysI tr.1 (bfC h0 h1 tr.1) i).toInt64))), (12, .long ((dLast fx (bfC h0 h1 tr.1 i) 0).toInt64 + (tr.1 7).toInt64)), (10, .long ((dysI tr.1 (bfC h0 h1 tr.1) i).toInt64)), (8, .long ((dLast fx (bfC h0 h1 tr.1 i) 0).toInt64)), (7, .int (nI i)), (5, .long v), (3, .long cc), (0, .ref x), (1, .int (nI t)), (2, .int (nI k))]) hx hb dX5_floats_82 hl (by decide) rfl (fun ls hl => ?_)
        refine lv_aload_n hx hb dX5_floats_84 rfl (lv_at hl 7 rfl) ?_
        refine gf hx hb hts hown hE lkX5_50 hX.1 rfl dX5_floats_85 ?_
        refine lv_iload_n hx hb dX5_floats_88 rfl (lv_at hl 8 rfl) ?_
        refine aI hx hb hE hA16 rfl htl_ (by omega) (hF_ 9 (by omega)) dX5_floats_89 ?_
        refine lv_if_ne (tgt := 109) hx hb dX5_floats_90 (by decide) (fun c7 => ?_) (fun c7 => ?_)
        rotate_left
        · exact absurd c7 d9
        refine lv_aload_n hx hb dX5_floats_109 rfl (lv_at hl 7 rfl) ?_
        refine gf hx hb hts hown hE lkX5_50 hX.1 rfl dX5_floats_110 ?_
        refine lv_iload_n hx hb dX5_floats_113 rfl (lv_at hl 8 rfl) ?_
        refine aI hx hb hE hA16 rfl htl_ (by omega) (hF_ 9 (by omega)) dX5_floats_114 ?_
        refine lv_iconst (v := 1) hx hb dX5_floats_115 (by decide) ?_
        refine lv_icmp_ne (tgt := 124) hx hb dX5_floats_116 (by decide) (fun c8 => ?_) (fun c8 => ?_)
        · exact absurd c1 c8
        refine lv_lload hx hb dX5_floats_119 (lv_at hl 0 rfl) ?_
        refine lv_goto (tgt := 137) hx hb dX5_floats_121 (by decide) ?_
        refine lv_lstore (lv' := [(5, .long (flo (((3600000 + cc) * ((dLast fx (bfC h0 h1 tr.1 i) 0).toInt64 + (tr.1 7).toInt64)) * (dysI tr.1 (bfC h0 h1 tr.1) i).toInt64))), (14, .long (flo (((3600000 + cc) * ((dLast fx (bfC h0 h1 tr.1 i) 0).toInt64 + (tr.1 7).toInt64)) * (dysI tr.1 (bfC h0 h1 tr.1) i).toInt64))), (12, .long ((dLast fx (bfC h0 h1 tr.1 i) 0).toInt64 + (tr.1 7).toInt64)), (10, .long ((dysI tr.1 (bfC h0 h1 tr.1) i).toInt64)), (8, .long ((dLast fx (bfC h0 h1 tr.1 i) 0).toInt64)), (7, .int (nI i)), (3, .long cc), (0, .ref x), (1, .int (nI t)), (2, .int (nI k))]) hx hb dX5_floats_137 hl (by decide) rfl (fun ls hl => ?_)
        refine lv_lload_n hx hb dX5_floats_139 rfl (lv_at hl 6 rfl) ?_
        refine lv_lload hx hb dX5_floats_140 (lv_at hl 1 rfl) ?_
        refine lv_ladd hx hb dX5_floats_142 ?_
        refine lv_lstore_n (lv' := [(3, .long (cc + (flo (((3600000 + cc) * ((dLast fx (bfC h0 h1 tr.1 i) 0).toInt64 + (tr.1 7).toInt64)) * (dysI tr.1 (bfC h0 h1 tr.1) i).toInt64)))), (5, .long (flo (((3600000 + cc) * ((dLast fx (bfC h0 h1 tr.1 i) 0).toInt64 + (tr.1 7).toInt64)) * (dysI tr.1 (bfC h0 h1 tr.1) i).toInt64))), (14, .long (flo (((3600000 + cc) * ((dLast fx (bfC h0 h1 tr.1 i) 0).toInt64 + (tr.1 7).toInt64)) * (dysI tr.1 (bfC h0 h1 tr.1) i).toInt64))), (12, .long ((dLast fx (bfC h0 h1 tr.1 i) 0).toInt64 + (tr.1 7).toInt64)), (10, .long ((dysI tr.1 (bfC h0 h1 tr.1) i).toInt64)), (8, .long ((dLast fx (bfC h0 h1 tr.1 i) 0).toInt64)), (7, .int (nI i)), (0, .ref x), (1, .int (nI t)), (2, .int (nI k))]) hx hb dX5_floats_143 rfl hl (by decide) rfl (fun ls hl => ?_)
        refine lv_iinc (v := nI (i + 1)) (lv' := [(7, .int (nI (i + 1))), (3, .long (cc + (flo (((3600000 + cc) * ((dLast fx (bfC h0 h1 tr.1 i) 0).toInt64 + (tr.1 7).toInt64)) * (dysI tr.1 (bfC h0 h1 tr.1) i).toInt64)))), (5, .long (flo (((3600000 + cc) * ((dLast fx (bfC h0 h1 tr.1 i) 0).toInt64 + (tr.1 7).toInt64)) * (dysI tr.1 (bfC h0 h1 tr.1) i).toInt64))), (14, .long (flo (((3600000 + cc) * ((dLast fx (bfC h0 h1 tr.1 i) 0).toInt64 + (tr.1 7).toInt64)) * (dysI tr.1 (bfC h0 h1 tr.1) i).toInt64))), (12, .long ((dLast fx (bfC h0 h1 tr.1 i) 0).toInt64 + (tr.1 7).toInt64)), (10, .long ((dysI tr.1 (bfC h0 h1 tr.1) i).toInt64)), (8, .long ((dLast fx (bfC h0 h1 tr.1 i) 0).toInt64)), (0, .ref x), (1, .int (nI t)), (2, .int (nI k))]) hx hb dX5_floats_144 hl (k := 6) rfl (nI_1 i) (by decide) rfl (fun ls hl => ?_)
        refine lv_goto (tgt := 8) hx hb dX5_floats_147 (by decide) ?_
        exact ih (i + 1) (flo (((3600000 + cc) * ((dLast fx (bfC h0 h1 tr.1 i) 0).toInt64 + (tr.1 7).toInt64)) * (dysI tr.1 (bfC h0 h1 tr.1) i).toInt64)) (cc + (flo (((3600000 + cc) * ((dLast fx (bfC h0 h1 tr.1 i) 0).toInt64 + (tr.1 7).toInt64)) * (dysI tr.1 (bfC h0 h1 tr.1) i).toInt64))) ls (by omega) (by rw [hc]; simp only [flS, rte, dysI_l]; rw [if_pos c1]) (fun j hj => by cases hj; (try rw [hc]); simp only [flS, rte, dysI_l]; rw [if_neg d9, if_pos c1, if_pos c1]) (lv_sub hl [0, 2, 1, 7, 8, 9] rfl)
  exact loop (k + 1) 0 0 0 ls (by omega) rfl (fun j hj => by omega) (lv_sub hl [0, 1, 2, 3, 4, 5] rfl)

set_option maxRecDepth 100000 in
set_option maxHeartbeats 4000000 in
/-- flowOf -/
theorem c_mflow (E : ET) (x : Nat) (sc : Nat → Int32) (ad : Nat → Nat) (ar : Nat → Nat → Int32) (h0 h1 fx : Dy) (ts : List TR) (B : BK) (t : Nat) (tr : TR) (k n : Nat) (H : Heap) (hX : MX E x sc ad ar H) (hI : MI sc ar h0 h1 fx ts B) (hV : SV h0 h1 fx ts) (ht : ts[t]? = some tr) (hn : tr.1 6 = nI n) (hnp : n ≤ 10) (hk : k < n) : PCon E yX5_flowOf cX5_flowOf 5 (some FieldType.long) 6 [.ref x, .int (nI t), .int (nI k)] H (some (.long (flwS tr.1 tr.2.1 (bfC h0 h1 tr.1) fx k))) := by
  refine PCon.of (C := RX5) rfl (by decide +kernel) (Nat.le_of_ble_eq_true rfl) ?_
  intro p e s m below meth co ls hx hb hr hlk hml hown hts hE hH hl
  have hl : lv_has ls 5 [(0, .ref x), (1, .int (nI t)), (2, .int (nI k))] := hl
  have hA10 : IA E 10 (ar 10) (ad 10) H := hX.2 10 rfl
  have hA9 : ZA E 10 (ar 9) (ad 9) H := hX.2 9 rfl
  have htl_ : t < 10 := by
    have := (List.getElem?_eq_some_iff.mp ht).1
    have := hV.2.2.2.2.2.2.2.1
    omega
  obtain ⟨pa_, lo_, f_, le_, n_, v1_, v2_, v3_, v4_, v5_, v6_, v7_, v8_, t0_, t1_, t2_, t4_, t5_, t6_, t8_, t9_, tb_, th_⟩ := hV.2.2.2.2.2.2.2.2 tr (List.mem_of_getElem? ht)
  have hF_ : ∀ j, j < 10 → ar (7 + j) t = tr.1 j := hI.2.2.2.2.2.1 t tr ht
  refine lv_aload_n hx hb dX5_flowOf_0 rfl (lv_at hl 0 rfl) ?_
  refine lv_iload_n hx hb dX5_flowOf_1 rfl (lv_at hl 1 rfl) ?_
  refine lv_iload_n hx hb dX5_flowOf_2 rfl (lv_at hl 2 rfl) ?_
  refine pV hx hb hml hts hown hE kwX5_147 (c_mfloats E x sc ad ar h0 h1 fx ts B t tr k n H hX hI hV ht hn hnp hk) hX.1 rfl (Nat.le_of_ble_eq_true rfl) rfl hl.1 rfl (Nat.le_of_ble_eq_true rfl) (Nat.le_refl _) (Nat.le_refl _) dX5_flowOf_3 ?_
  refine lv_aload_n hx hb dX5_flowOf_6 rfl (lv_at hl 0 rfl) ?_
  refine gf hx hb hts hown hE lkX5_32 hX.1 rfl dX5_flowOf_7 ?_
  refine lv_iload_n hx hb dX5_flowOf_10 rfl (lv_at hl 1 rfl) ?_
  refine aI hx hb hE hA10 rfl htl_ (by omega) (hF_ 3 (by omega)) dX5_flowOf_11 ?_
  refine lv_i2l hx hb dX5_flowOf_12 rfl ?_
  refine lv_aload_n hx hb dX5_flowOf_13 rfl (lv_at hl 0 rfl) ?_
  refine lv_iload_n hx hb dX5_flowOf_14 rfl (lv_at hl 1 rfl) ?_
  refine lv_iload_n hx hb dX5_flowOf_15 rfl (lv_at hl 2 rfl) ?_
  refine pV hx hb hml hts hown hE kwX5_138 (c_mdays E x sc ad ar h0 h1 fx ts B t tr k n H hX hI hV ht hn hnp hk) hX.1 rfl (Nat.le_of_ble_eq_true rfl) rfl hl.1 rfl (Nat.le_of_ble_eq_true rfl) (Nat.le_refl _) (Nat.le_refl _) dX5_flowOf_16 ?_
  refine lv_i2l hx hb dX5_flowOf_19 rfl ?_
  refine lv_lmul hx hb dX5_flowOf_20 ?_
  refine lv_lsub hx hb dX5_flowOf_21 ?_
  refine lv_lstore_n (lv' := [(3, .long (fltS tr.1 (bfC h0 h1 tr.1) fx k - ((tr.1 3).toInt64 * (dysI tr.1 (bfC h0 h1 tr.1) k).toInt64))), (0, .ref x), (1, .int (nI t)), (2, .int (nI k))]) hx hb dX5_flowOf_22 rfl hl (by decide) rfl (fun ls hl => ?_)
  refine lv_aload_n hx hb dX5_flowOf_23 rfl (lv_at hl 1 rfl) ?_
  refine lv_iload_n hx hb dX5_flowOf_24 rfl (lv_at hl 2 rfl) ?_
  refine lv_iload_n hx hb dX5_flowOf_25 rfl (lv_at hl 3 rfl) ?_
  refine pV hx hb hml hts hown hE kwX5_151 (c_mlots E x sc ad ar h0 h1 fx ts B t tr k n H hX hI hV ht hn hnp hk) hX.1 rfl (Nat.le_of_ble_eq_true rfl) rfl hl.1 rfl (Nat.le_of_ble_eq_true rfl) (Nat.le_refl _) (Nat.le_refl _) dX5_flowOf_26 ?_
  refine lv_i2l hx hb dX5_flowOf_29 rfl ?_
  refine lv_aload_n hx hb dX5_flowOf_30 rfl (lv_at hl 1 rfl) ?_
  refine gf hx hb hts hown hE lkX5_29 hX.1 rfl dX5_flowOf_31 ?_
  refine lv_iload_n hx hb dX5_flowOf_34 rfl (lv_at hl 2 rfl) ?_
  refine aZ hx hb hE hA9 rfl htl_ (by omega) (hF_ 2 (by omega)) dX5_flowOf_35 ?_
  refine lv_if_eq (tgt := 43) hx hb dX5_flowOf_36 (by decide) (fun c => ?_) (fun c => ?_)
  · refine lv_lload_n hx hb dX5_flowOf_43 rfl (lv_at hl 0 rfl) ?_
    refine lv_lneg hx hb dX5_flowOf_44 ?_
    refine lv_lmul hx hb dX5_flowOf_45 ?_
    exact pL hx hb hr hlk hH (by simp [flwS, gnS, c, dysI_l]) dX5_flowOf_46
  · refine lv_lload_n hx hb dX5_flowOf_39 rfl (lv_at hl 0 rfl) ?_
    refine lv_goto (tgt := 45) hx hb dX5_flowOf_40 (by decide) ?_
    refine lv_lmul hx hb dX5_flowOf_45 ?_
    exact pL hx hb hr hlk hH (by simp [flwS, gnS, c, dysI_l]) dX5_flowOf_46

set_option maxRecDepth 100000 in
set_option maxHeartbeats 4000000 in
/-- sum -/
theorem c_msum (E : ET) (x : Nat) (sc : Nat → Int32) (ad : Nat → Nat) (ar : Nat → Nat → Int32) (h0 h1 fx : Dy) (ts : List TR) (B : BK) (pa d1 d2 : Int32) (H : Heap) (hX : MX E x sc ad ar H) (hI : MI sc ar h0 h1 fx ts B) (hV : SV h0 h1 fx ts)  : PCon E yX5_sum cX5_sum 9 (some FieldType.long) 7 [.ref x, .int pa, .int d1, .int d2] H (some (.long (sumS h0 h1 fx pa d1 d2 0 ts))) := by
  refine PCon.of (C := RX5) rfl (by decide +kernel) (Nat.le_of_ble_eq_true rfl) ?_
  intro p e s m below meth co ls hx hb hr hlk hml hown hts hE hH hl
  have hl : lv_has ls 9 [(0, .ref x), (1, .int pa), (2, .int d1), (3, .int d2)] := hl
  have hA13 : IA E 10 (ar 13) (ad 13) H := hX.2 13 rfl
  have hn6 := hI.2.2.2.2.1
  refine lv_lconst (v := 0) hx hb dX5_sum_0 (by decide) ?_
  refine lv_lstore (lv' := [(4, .long 0), (0, .ref x), (1, .int pa), (2, .int d1), (3, .int d2)]) hx hb dX5_sum_1 hl (by decide) rfl (fun ls hl => ?_)
  refine lv_iconst (v := 0) hx hb dX5_sum_3 (by decide) ?_
  refine lv_istore (lv' := [(6, .int 0), (4, .long 0), (0, .ref x), (1, .int pa), (2, .int d1), (3, .int d2)]) hx hb dX5_sum_4 hl (by decide) rfl (fun ls hl => ?_)
  have htn := hV.2.2.2.2.2.2.2.1
  have loop : ∀ (us : List TR) (t : Nat) (v : Int64) (ls : Array Slot), ts.drop t = us → t ≤ ts.length → sumS h0 h1 fx pa d1 d2 0 ts = sumS h0 h1 fx pa d1 d2 v us → lv_has ls 9 [(6, .int (nI t)), (4, .long v), (0, .ref x), (1, .int pa), (2, .int d1), (3, .int d2)] → W p (eL E) e (rmk 7 0 0) s m ([.ref x, .int pa, .int d1, .int d2]).toArray below meth co H [] 0 0 (MQ below (PQ (some (.long (sumS h0 h1 fx pa d1 d2 0 ts)))) ([.ref x, .int pa, .int d1, .int d2]).toArray s 0 0 (fun _ => False)) (F0 m 6 ls []) := by
    intro us
    induction us with
    | nil =>
      intro t v ls hd hi he hl
      have hi2 := drop_n hd hi
      refine lv_iload hx hb dX5_sum_6 (lv_at hl 0 rfl) ?_
      refine lv_aload_n hx hb dX5_sum_8 rfl (lv_at hl 2 rfl) ?_
      refine gf hx hb hts hown hE lkX5_79 hX.1 rfl dX5_sum_9 ?_
      refine lv_icmp_ge (tgt := 93) hx hb dX5_sum_12 (by decide) (fun c => ?_) (fun c => ?_)
      rotate_left
      · exact absurd (by rw [hn6]; exact nI_le (by omega) (by omega)) c
      refine lv_lload hx hb dX5_sum_93 (lv_at hl 1 rfl) ?_
      exact pL hx hb hr hlk hH (by rw [he]; rfl) dX5_sum_95
    | cons tr us ih =>
      intro t v ls hd hi he hl
      obtain ⟨ht, hlt, hd2⟩ := drop_c hd
      have htl_ : t < 10 := by
        have := (List.getElem?_eq_some_iff.mp ht).1
        have := hV.2.2.2.2.2.2.2.1
        omega
      obtain ⟨pa_, lo_, f_, le_, n_, v1_, v2_, v3_, v4_, v5_, v6_, v7_, v8_, t0_, t1_, t2_, t4_, t5_, t6_, t8_, t9_, tb_, th_⟩ := hV.2.2.2.2.2.2.2.2 tr (List.mem_of_getElem? ht)
      have hF_ : ∀ j, j < 10 → ar (7 + j) t = tr.1 j := hI.2.2.2.2.2.1 t tr ht
      refine lv_iload hx hb dX5_sum_6 (lv_at hl 0 rfl) ?_
      refine lv_aload_n hx hb dX5_sum_8 rfl (lv_at hl 2 rfl) ?_
      refine gf hx hb hts hown hE lkX5_79 hX.1 rfl dX5_sum_9 ?_
      refine lv_icmp_ge (tgt := 93) hx hb dX5_sum_12 (by decide) (fun c => ?_) (fun c => ?_)
      · exact absurd c (by rw [hn6]; exact nI_ge hlt (by omega))
      refine lv_iconst (v := 0) hx hb dX5_sum_15 (by decide) ?_
      refine lv_istore (lv' := [(7, .int 0), (6, .int (nI t)), (4, .long v), (0, .ref x), (1, .int pa), (2, .int d1), (3, .int d2)]) hx hb dX5_sum_16 hl (by decide) rfl (fun ls hl => ?_)
      have loop2 : ∀ (q i : Nat) (ls : Array Slot), i + q = n_ → lv_has ls 9 [(7, .int (nI i)), (6, .int (nI t)), (4, .long (sumK h0 h1 fx pa d1 d2 tr v i)), (0, .ref x), (1, .int pa), (2, .int d1), (3, .int d2)] → W p (eL E) e (rmk 7 0 0) s m ([.ref x, .int pa, .int d1, .int d2]).toArray below meth co H [] 0 0 (MQ below (PQ (some (.long (sumS h0 h1 fx pa d1 d2 0 ts)))) ([.ref x, .int pa, .int d1, .int d2]).toArray s 0 0 (fun _ => False)) (F0 m 18 ls []) := by
        intro q
        induction q with
        | zero =>
          intro i ls hi2 hl
          have hi3 : i = n_ := by omega
          subst hi3
          refine lv_iload hx hb dX5_sum_18 (lv_at hl 0 rfl) ?_
          refine lv_aload_n hx hb dX5_sum_20 rfl (lv_at hl 3 rfl) ?_
          refine gf hx hb hts hown hE lkX5_41 hX.1 rfl dX5_sum_21 ?_
          refine lv_iload hx hb dX5_sum_24 (lv_at hl 1 rfl) ?_
          refine aI hx hb hE hA13 rfl htl_ (by omega) ((hF_ 6 (by omega)).trans t6_) dX5_sum_26 ?_
          refine lv_icmp_ge (tgt := 87) hx hb dX5_sum_27 (by decide) (fun c => ?_) (fun c => ?_)
          rotate_left
          · exact absurd (nI_le (Nat.le_refl _) (by omega)) c
          refine lv_iinc (v := nI (t + 1)) (lv' := [(6, .int (nI (t + 1))), (7, .int (nI i)), (4, .long (sumK h0 h1 fx pa d1 d2 tr v i)), (0, .ref x), (1, .int pa), (2, .int d1), (3, .int d2)]) hx hb dX5_sum_87 hl (k := 1) rfl (nI_1 t) (by decide) rfl (fun ls hl => ?_)
          refine lv_goto (tgt := 6) hx hb dX5_sum_90 (by decide) ?_
          exact ih (t + 1) _ ls hd2 (by omega) (he.trans (by simp only [sumS]; rw [t6_, nI_clamp (by omega)])) (lv_sub hl [0, 2, 3, 4, 5, 6] rfl)
        | succ q ih2 =>
          intro i ls hi2 hl
          refine lv_iload hx hb dX5_sum_18 (lv_at hl 0 rfl) ?_
          refine lv_aload_n hx hb dX5_sum_20 rfl (lv_at hl 3 rfl) ?_
          refine gf hx hb hts hown hE lkX5_41 hX.1 rfl dX5_sum_21 ?_
          refine lv_iload hx hb dX5_sum_24 (lv_at hl 1 rfl) ?_
          refine aI hx hb hE hA13 rfl htl_ (by omega) ((hF_ 6 (by omega)).trans t6_) dX5_sum_26 ?_
          refine lv_icmp_ge (tgt := 87) hx hb dX5_sum_27 (by decide) (fun c => ?_) (fun c => ?_)
          · exact absurd c (nI_ge (by omega) (by omega))
          refine lv_aload_n hx hb dX5_sum_30 rfl (lv_at hl 3 rfl) ?_
          refine lv_iload hx hb dX5_sum_31 (lv_at hl 1 rfl) ?_
          refine lv_iload hx hb dX5_sum_33 (lv_at hl 0 rfl) ?_
          refine lv_iconst (v := 1) hx hb dX5_sum_35 (by decide) ?_
          refine lv_iadd hx hb dX5_sum_36 ?_
          rw [show nI i + 1 = nI (i + 1) from nI_1 i]
          refine pV hx hb hml hts hown hE kwX5_128 (c_beg E x sc ad ar h0 h1 fx ts B t tr (i + 1) n_ H hX hI hV ht t6_ (by omega) (by omega)) hX.1 rfl (Nat.le_of_ble_eq_true rfl) rfl hl.1 rfl (Nat.le_of_ble_eq_true rfl) (Nat.le_refl _) (Nat.le_refl _) dX5_sum_37 ?_
          refine lv_istore (lv' := [(8, .int (bfC h0 h1 tr.1 (i + 1))), (7, .int (nI i)), (6, .int (nI t)), (4, .long (sumK h0 h1 fx pa d1 d2 tr v i)), (0, .ref x), (1, .int pa), (2, .int d1), (3, .int d2)]) hx hb dX5_sum_40 hl (by decide) rfl (fun ls hl => ?_)
          refine lv_lload hx hb dX5_sum_42 (lv_at hl 3 rfl) ?_
          refine lv_iload hx hb dX5_sum_44 (lv_at hl 0 rfl) ?_
          refine lv_iload_n hx hb dX5_sum_46 rfl (lv_at hl 6 rfl) ?_
          refine lv_iload_n hx hb dX5_sum_47 rfl (lv_at hl 7 rfl) ?_
          refine pS hx hb hml hts hown hE kwX5_75 (c_in E (bfC h0 h1 tr.1 (i + 1)) d1 d2 H) (Nat.le_of_ble_eq_true rfl) rfl hl.1 rfl (Nat.le_of_ble_eq_true rfl) (Nat.le_refl _) (Nat.le_refl _) dX5_sum_48 ?_
          have es : sumK h0 h1 fx pa d1 d2 tr v (i + 1) = sumK h0 h1 fx pa d1 d2 tr v i + (if inB (bfC h0 h1 tr.1 (i + 1)) d1 d2 = true ∧ hldS tr.1 tr.2.2 (bfC h0 h1 tr.1 (i + 1)) = pa then flwS tr.1 tr.2.1 (bfC h0 h1 tr.1) fx i else 0) := rfl
          cases c5 : inB (bfC h0 h1 tr.1 (i + 1)) d1 d2 with
          | false =>
            refine lv_if_eq (tgt := 77) hx hb dX5_sum_51 (by decide) (fun c6 => ?_) (fun c6 => ?_)
            rotate_left
            · exact absurd (by decide) c6
            refine lv_lconst (v := 0) hx hb dX5_sum_77 (by decide) ?_
            refine lv_ladd hx hb dX5_sum_78 ?_
            refine lv_lstore (lv' := [(4, .long (sumK h0 h1 fx pa d1 d2 tr v i + 0)), (8, .int (bfC h0 h1 tr.1 (i + 1))), (7, .int (nI i)), (6, .int (nI t)), (0, .ref x), (1, .int pa), (2, .int d1), (3, .int d2)]) hx hb dX5_sum_79 hl (by decide) rfl (fun ls hl => ?_)
            refine lv_iinc (v := nI (i + 1)) (lv' := [(7, .int (nI (i + 1))), (4, .long (sumK h0 h1 fx pa d1 d2 tr v i + 0)), (8, .int (bfC h0 h1 tr.1 (i + 1))), (6, .int (nI t)), (0, .ref x), (1, .int pa), (2, .int d1), (3, .int d2)]) hx hb dX5_sum_81 hl (k := 2) rfl (nI_1 i) (by decide) rfl (fun ls hl => ?_)
            refine lv_goto (tgt := 18) hx hb dX5_sum_84 (by decide) ?_
            refine ih2 (i + 1) ls (by omega) ?_
            rw [es, if_neg (fun q => absurd (c5.symm.trans q.1) (by decide))]
            exact (lv_sub hl [0, 3, 1, 4, 5, 6, 7] rfl)
          | true =>
            refine lv_if_eq (tgt := 77) hx hb dX5_sum_51 (by decide) (fun c6 => ?_) (fun c6 => ?_)
            · exact absurd c6 (by decide)
            refine lv_aload_n hx hb dX5_sum_54 rfl (lv_at hl 4 rfl) ?_
            refine lv_iload hx hb dX5_sum_55 (lv_at hl 2 rfl) ?_
            refine lv_iload hx hb dX5_sum_57 (lv_at hl 0 rfl) ?_
            refine pV hx hb hml hts hown hE kwX5_125 (c_mparty E x sc ad ar h0 h1 fx ts B t tr (bfC h0 h1 tr.1 (i + 1)) H hX hI hV ht) hX.1 rfl (Nat.le_of_ble_eq_true rfl) rfl hl.1 rfl (Nat.le_of_ble_eq_true rfl) (Nat.le_refl _) (Nat.le_refl _) dX5_sum_59 ?_
            refine lv_iload_n hx hb dX5_sum_62 rfl (lv_at hl 5 rfl) ?_
            refine lv_icmp_ne (tgt := 77) hx hb dX5_sum_63 (by decide) (fun c7 => ?_) (fun c7 => ?_)
            · refine lv_lconst (v := 0) hx hb dX5_sum_77 (by decide) ?_
              refine lv_ladd hx hb dX5_sum_78 ?_
              refine lv_lstore (lv' := [(4, .long (sumK h0 h1 fx pa d1 d2 tr v i + 0)), (8, .int (bfC h0 h1 tr.1 (i + 1))), (7, .int (nI i)), (6, .int (nI t)), (0, .ref x), (1, .int pa), (2, .int d1), (3, .int d2)]) hx hb dX5_sum_79 hl (by decide) rfl (fun ls hl => ?_)
              refine lv_iinc (v := nI (i + 1)) (lv' := [(7, .int (nI (i + 1))), (4, .long (sumK h0 h1 fx pa d1 d2 tr v i + 0)), (8, .int (bfC h0 h1 tr.1 (i + 1))), (6, .int (nI t)), (0, .ref x), (1, .int pa), (2, .int d1), (3, .int d2)]) hx hb dX5_sum_81 hl (k := 2) rfl (nI_1 i) (by decide) rfl (fun ls hl => ?_)
              refine lv_goto (tgt := 18) hx hb dX5_sum_84 (by decide) ?_
              refine ih2 (i + 1) ls (by omega) ?_
              rw [es, if_neg (fun q => c7 q.2)]
              exact (lv_sub hl [0, 3, 1, 4, 5, 6, 7] rfl)
            · refine lv_aload_n hx hb dX5_sum_66 rfl (lv_at hl 4 rfl) ?_
              refine lv_iload hx hb dX5_sum_67 (lv_at hl 2 rfl) ?_
              refine lv_iload hx hb dX5_sum_69 (lv_at hl 1 rfl) ?_
              refine pV hx hb hml hts hown hE kwX5_157 (c_mflow E x sc ad ar h0 h1 fx ts B t tr i n_ H hX hI hV ht t6_ (by omega) (by omega)) hX.1 rfl (Nat.le_of_ble_eq_true rfl) rfl hl.1 rfl (Nat.le_of_ble_eq_true rfl) (Nat.le_refl _) (Nat.le_refl _) dX5_sum_71 ?_
              refine lv_goto (tgt := 78) hx hb dX5_sum_74 (by decide) ?_
              refine lv_ladd hx hb dX5_sum_78 ?_
              refine lv_lstore (lv' := [(4, .long (sumK h0 h1 fx pa d1 d2 tr v i + flwS tr.1 tr.2.1 (bfC h0 h1 tr.1) fx i)), (8, .int (bfC h0 h1 tr.1 (i + 1))), (7, .int (nI i)), (6, .int (nI t)), (0, .ref x), (1, .int pa), (2, .int d1), (3, .int d2)]) hx hb dX5_sum_79 hl (by decide) rfl (fun ls hl => ?_)
              refine lv_iinc (v := nI (i + 1)) (lv' := [(7, .int (nI (i + 1))), (4, .long (sumK h0 h1 fx pa d1 d2 tr v i + flwS tr.1 tr.2.1 (bfC h0 h1 tr.1) fx i)), (8, .int (bfC h0 h1 tr.1 (i + 1))), (6, .int (nI t)), (0, .ref x), (1, .int pa), (2, .int d1), (3, .int d2)]) hx hb dX5_sum_81 hl (k := 2) rfl (nI_1 i) (by decide) rfl (fun ls hl => ?_)
              refine lv_goto (tgt := 18) hx hb dX5_sum_84 (by decide) ?_
              refine ih2 (i + 1) ls (by omega) ?_
              rw [es, if_pos ⟨c5, c7⟩]
              exact (lv_sub hl [0, 3, 1, 4, 5, 6, 7] rfl)
      exact loop2 n_ 0 ls (by omega) (lv_sub hl [0, 1, 2, 3, 4, 5, 6] rfl)
  exact loop ts 0 0 ls rfl (Nat.zero_le _) rfl (lv_sub hl [0, 1, 2, 3, 4, 5] rfl)
