theorem tv_brT2 {tr : TR} (h : TV tr) {d : Int32} (hd : inB d 0 3000 = true) (v : Int32) : TV (brT tr d v) := by
  obtain ⟨j, hj, e⟩ := inB_nI (n := 3000) hd
  rw [e]
  exact h.brT hj v
theorem brk_len (B : BK) (t : Nat) : (brk B t).length ≤ B.length := by
  unfold brk
  rw [List.length_map]
  exact List.length_filter_le _ _
theorem nI_mul9 (a b : Nat) : nI a * nI b = nI (a * b) := by
  apply Int32.toBitVec_inj.1
  show BitVec.ofNat 32 a * BitVec.ofNat 32 b = BitVec.ofNat 32 (a * b)
  rw [BitVec.ofNat_mul]
theorem h10 {i n : Nat} : (10 : Int32) * nI i + nI n = nI (10 * i + n) := by
  rw [show (10 : Int32) * nI i = nI (10 * i) from (nI_mul9 10 i), nI_add]
set_option maxRecDepth 100000 in
set_option maxHeartbeats 4000000 in
/-- breaks -/
theorem c_mbreaks (E : ET) (ow : Nat → Nat × Nat) (x : Nat) (sc : Nat → Int32) (ad : Nat → Nat) (ar : Nat → Nat → Int32) (h0 h1 fx : Dy) (ts : List TR) (B : BK) (i : Nat) (tr : TR) (d lo : Int32) (c : Nat) (H : Heap) (hM : MR E ow x sc ad ar H) (hI : MI sc ar h0 h1 fx ts B) (hV : SV h0 h1 fx ts) (hc : sc 0 = nI c) (ht : ts[i]? = some tr) (hB9 : B.length < 9000) : Con E yX5_breaks cX5_breaks 4 (none : Option FieldType) 2 0 0 [.ref x, .int (nI i), .int d, .int lo] H (o1 none (fun H' => MO E ow x h0 h1 fx (ts.set i (brT tr d lo)) (B ++ [(nI i, d, lo)]) (c) H H')) := by
  refine Con.of (C := RX5) rfl (by decide +kernel) (Nat.le_of_ble_eq_true rfl) ?_
  intro p e s m below meth co ls hx hb hr hlk hml hown hts hin hE hH hS hl
  have hl : lv_has ls 4 [(0, .ref x), (1, .int (nI i)), (2, .int d), (3, .int lo)] := hl
  have hB : eB E ≤ s.heap.size := by rw [hH]; exact hE.2.1
  have hO := hM.1.1
  have htn := hV.tn
  have hn6 := hI.2.2.2.2.1
  have hF : FR (fun z => (ow z).1 = 4 ∧ (ow z).2 ≤ 23) H H := FR.rf
  have h17 := hI.2.2.2.2.2.2.2.1.1
  refine lv_aload_n hx hb dX5_breaks_0 rfl (lv_at hl 0 rfl) ?_
  refine gf hx hb hts hown hE lkX5_53 hO rfl dX5_breaks_1 ?_
  refine lv_aload_n hx hb dX5_breaks_4 rfl (lv_at hl 0 rfl) ?_
  refine gf hx hb hts hown hE lkX5_108 hO rfl dX5_breaks_5 ?_
  refine lv_iload_n hx hb dX5_breaks_8 rfl (lv_at hl 1 rfl) ?_
  have hA18 : IA E 10000 (ar 18) (ad 18) H := hM.1.2 18 rfl
  refine asI hx hb hE hS hA18 (hM.2.2 18 rfl).2  h17 (by omega) (by omega) dX5_breaks_9 (fun H1 L1 hO1 hz1 hq1 hE hS => ?_)
  have hA18 : IA E 10000 (upd (ar 18) B.length (nI i)) (ad 18) H1 := hO1
  have hF := hF.put hz1 hq1 (fun _ => ⟨by rw [(hM.2.2 18 rfl).1], by rw [(hM.2.2 18 rfl).1]; decide⟩)
  have hO := pk1 hO (hq1 x (hM.ne 18 rfl))
  have hM := hM.arr (k := 18) rfl hA18 hq1
  refine lv_aload_n hx hb dX5_breaks_10 rfl (lv_at hl 0 rfl) ?_
  refine gf hx hb hts hown hE lkX5_56 hO rfl dX5_breaks_11 ?_
  refine lv_aload_n hx hb dX5_breaks_14 rfl (lv_at hl 0 rfl) ?_
  refine gf hx hb hts hown hE lkX5_108 hO rfl dX5_breaks_15 ?_
  refine lv_iload_n hx hb dX5_breaks_18 rfl (lv_at hl 2 rfl) ?_
  have hA19 : IA E 10000 ((upA ar 18 (upd (ar 18) B.length (nI i))) 19) (ad 19) H1 := hM.1.2 19 rfl
  refine asI hx hb hE hS hA19 (hM.2.2 19 rfl).2  h17 (by omega) (by omega) dX5_breaks_19 (fun H2 L2 hO2 hz2 hq2 hE hS => ?_)
  have hA19 : IA E 10000 (upd ((upA ar 18 (upd (ar 18) B.length (nI i))) 19) B.length d) (ad 19) H2 := hO2
  have hF := hF.put hz2 hq2 (fun _ => ⟨by rw [(hM.2.2 19 rfl).1], by rw [(hM.2.2 19 rfl).1]; decide⟩)
  have hO := pk1 hO (hq2 x (hM.ne 19 rfl))
  have hM := hM.arr (k := 19) rfl hA19 hq2
  refine lv_aload_n hx hb dX5_breaks_20 rfl (lv_at hl 0 rfl) ?_
  refine gf hx hb hts hown hE lkX5_59 hO rfl dX5_breaks_21 ?_
  refine lv_aload_n hx hb dX5_breaks_24 rfl (lv_at hl 0 rfl) ?_
  refine gf hx hb hts hown hE lkX5_108 hO rfl dX5_breaks_25 ?_
  refine lv_iload_n hx hb dX5_breaks_28 rfl (lv_at hl 3 rfl) ?_
  have hA20 : IA E 10000 ((upA (upA ar 18 (upd (ar 18) B.length (nI i))) 19 (upd ((upA ar 18 (upd (ar 18) B.length (nI i))) 19) B.length d)) 20) (ad 20) H2 := hM.1.2 20 rfl
  refine asI hx hb hE hS hA20 (hM.2.2 20 rfl).2  h17 (by omega) (by omega) dX5_breaks_29 (fun H3 L3 hO3 hz3 hq3 hE hS => ?_)
  have hA20 : IA E 10000 (upd ((upA (upA ar 18 (upd (ar 18) B.length (nI i))) 19 (upd ((upA ar 18 (upd (ar 18) B.length (nI i))) 19) B.length d)) 20) B.length lo) (ad 20) H3 := hO3
  have hF := hF.put hz3 hq3 (fun _ => ⟨by rw [(hM.2.2 20 rfl).1], by rw [(hM.2.2 20 rfl).1]; decide⟩)
  have hO := pk1 hO (hq3 x (hM.ne 20 rfl))
  have hM := hM.arr (k := 20) rfl hA20 hq3
  refine lv_aload_n hx hb dX5_breaks_30 rfl (lv_at hl 0 rfl) ?_
  refine lv_dup hx hb dX5_breaks_31 rfl ?_
  refine gf hx hb hts hown hE lkX5_108 hO rfl dX5_breaks_32 ?_
  refine lv_iconst (v := 1) hx hb dX5_breaks_35 (by decide) ?_
  refine lv_iadd hx hb dX5_breaks_36 ?_
  rw [show sc 17 + 1 = nI (B.length + 1) by rw [h17]; exact nI_1 _]
  refine pf hx hb hts hown hE hS pkX5_108 rfl hO hM.2.1.2 rfl rfl (Nat.le_of_ble_eq_true rfl) dX5_breaks_37 (fun H4 L4 hO4 hz4 hq4 hE hS => ?_)
  have hO : OB E 6 [.int (sc 0), .ref (ad 1), .ref (ad 2), .ref (ad 3), .ref (ad 4), .int (sc 5), .int (sc 6), .ref (ad 7), .ref (ad 8), .ref (ad 9), .ref (ad 10), .ref (ad 11), .ref (ad 12), .ref (ad 13), .ref (ad 14), .ref (ad 15), .ref (ad 16), .int (nI (B.length + 1)), .ref (ad 18), .ref (ad 19), .ref (ad 20), .ref (ad 21), .ref (ad 22), .ref (ad 23)] x H4 := hO4
  have hF := hF.put hz4 hq4 (fun _ => ⟨by rw [hM.2.1.1], by rw [hM.2.1.1]; exact Nat.zero_le _⟩)
  have hM := hM.put (sc' := (upd sc 17 (nI (B.length + 1)))) hO hq4
  exact cU hx hb hr hlk hB hS (by omega) (by omega) (⟨rfl, ⟨(upd sc 17 (nI (B.length + 1))), ad, (upA (upA (upA ar 18 (upd (ar 18) B.length (nI i))) 19 (upd ((upA ar 18 (upd (ar 18) B.length (nI i))) 19) B.length d)) 20 (upd ((upA (upA ar 18 (upd (ar 18) B.length (nI i))) 19 (upd ((upA ar 18 (upd (ar 18) B.length (nI i))) 19) B.length d)) 20) B.length lo)), hM, hI.brk ht htn hB9, hc⟩, hF, by omega⟩) dX5_breaks_40

set_option maxRecDepth 100000 in
set_option maxHeartbeats 4000000 in
/-- breakPart -/
theorem c_mbrkp (E : ET) (ow : Nat → Nat × Nat) (x : Nat) (sc : Nat → Int32) (ad : Nat → Nat) (ar : Nat → Nat → Int32) (h0 h1 fx : Dy) (ts : List TR) (B : BK) (t d lo : Int32) (H : Heap) (hM : MR E ow x sc ad ar H) (hI : MI sc ar h0 h1 fx ts B) (hV : SV h0 h1 fx ts) (hB9 : B.length < 9000) : Con E yX5_breakPart cX5_breakPart 4 (some FieldType.int) 4 0 0 [.ref x, .int t, .int d, .int lo] H (o1 (some (.int (if cdBrk ts t d lo = 0 then ((trd ts t).elim 0 (fun tr => nI (tr.2.1.length + 1))) else 0))) (fun H' => (¬ cdBrk ts t d lo = 0 ∧ MO E ow x h0 h1 fx ts B (cdBrk ts t d lo) H H') ∨ (cdBrk ts t d lo = 0 ∧ ∃ tr i, t = nI i ∧ ts[i]? = some tr ∧ MO E ow x h0 h1 fx (ts.set i (brT tr d lo)) (B ++ [(nI i, d, lo)]) 0 H H'))) := by
  refine Con.of (C := RX5) rfl (by decide +kernel) (Nat.le_of_ble_eq_true rfl) ?_
  intro p e s m below meth co ls hx hb hr hlk hml hown hts hin hE hH hS hl
  have hl : lv_has ls 4 [(0, .ref x), (1, .int t), (2, .int d), (3, .int lo)] := hl
  have hB : eB E ≤ s.heap.size := by rw [hH]; exact hE.2.1
  have hO := hM.1.1
  have htn := hV.tn
  have hn6 := hI.2.2.2.2.1
  have hF : FR (fun z => (ow z).1 = 4 ∧ (ow z).2 ≤ 23) H H := FR.rf
  refine lv_aload_n hx hb dX5_breakPart_0 rfl (lv_at hl 0 rfl) ?_
  refine lv_aload_n hx hb dX5_breakPart_1 rfl (lv_at hl 0 rfl) ?_
  refine lv_iload_n hx hb dX5_breakPart_2 rfl (lv_at hl 1 rfl) ?_
  refine pV hx hb hml hts hown hE kwX5_82 (c_isTrade E x sc ad ar t H hM.1) hO rfl (Nat.le_of_ble_eq_true rfl) rfl hl.1 rfl (Nat.le_of_ble_eq_true rfl) (by omega) (by omega) dX5_breakPart_3 ?_
  rw [show inB t 0 (sc 6 - 1) = inB t 0 (nI ts.length - 1) by rw [← hn6]]
  cases c1 : inB t 0 (nI ts.length - 1) with
  | false =>
    have etr : trd ts t = none := trd_no (fun ⟨i, hi, e⟩ => by rw [(inB_pred (h := by omega)).mpr ⟨i, hi, e⟩] at c1; cases c1)
    refine lv_if_ne (tgt := 13) hx hb dX5_breakPart_6 (by decide) (fun c2 => ?_) (fun c2 => ?_)
    · exact absurd (by decide) c2
    have hcd : cdBrk ts t d lo = 1 := by unfold cdBrk; rw [etr]
    refine lv_iconst (v := 1) hx hb dX5_breakPart_9 (by decide) ?_
    refine lv_goto (tgt := 49) hx hb dX5_breakPart_10 (by decide) ?_
    refine pf hx hb hts hown hE hS pkX5_71 rfl hO hM.2.1.2 rfl rfl (Nat.le_of_ble_eq_true rfl) dX5_breakPart_49 (fun H1 L1 hO1 hz1 hq1 hE hS => ?_)
    have hO : OB E 6 [.int 1, .ref (ad 1), .ref (ad 2), .ref (ad 3), .ref (ad 4), .int (sc 5), .int (sc 6), .ref (ad 7), .ref (ad 8), .ref (ad 9), .ref (ad 10), .ref (ad 11), .ref (ad 12), .ref (ad 13), .ref (ad 14), .ref (ad 15), .ref (ad 16), .int (sc 17), .ref (ad 18), .ref (ad 19), .ref (ad 20), .ref (ad 21), .ref (ad 22), .ref (ad 23)] x H1 := hO1
    have hF := hF.put hz1 hq1 (fun _ => ⟨by rw [hM.2.1.1], by rw [hM.2.1.1]; exact Nat.zero_le _⟩)
    have hM := hM.put (sc' := (upd sc 0 1)) hO hq1
    have hI : MI (upd sc 0 1) ar h0 h1 fx ts B := hI
    refine lv_aload_n hx hb dX5_breakPart_52 rfl (lv_at hl 0 rfl) ?_
    refine gf hx hb hts hown hE lkX5_71 hO rfl dX5_breakPart_53 ?_
    refine lv_if_le (tgt := 61) hx hb dX5_breakPart_56 (by decide) (fun c99 => ?_) (fun c99 => ?_)
    · exact absurd c99 (by decide)
    refine lv_iconst (v := 0) hx hb dX5_breakPart_59 (by decide) ?_
    exact cI hx hb hr hlk hB hS (by omega) (by omega) (⟨by rw [hcd]; rfl, Or.inl ⟨by rw [hcd]; decide, by rw [hcd]; exact ⟨⟨(upd sc 0 1), ad, ar, hM, hI, rfl⟩, hF, by omega⟩⟩⟩) dX5_breakPart_60
  | true =>
    obtain ⟨i, hi, et⟩ := (inB_pred (n := ts.length) (h := by omega)).mp c1
    obtain ⟨tr, ht⟩ := getq hi
    have etr : trd ts t = some tr := by rw [et, trd_nI (by omega)]; exact ht
    have hi10 : i < 10 := by omega
    refine lv_if_ne (tgt := 13) hx hb dX5_breakPart_6 (by decide) (fun c2 => ?_) (fun c2 => ?_)
    rotate_left
    · exact absurd c2 (by decide)
    refine lv_iload_n hx hb dX5_breakPart_13 rfl (lv_at hl 2 rfl) ?_
    refine pS hx hb hml hts hown hE kwX5_89 (c_isDay E d H) (Nat.le_of_ble_eq_true rfl) rfl hl.1 rfl (Nat.le_of_ble_eq_true rfl) (by omega) (by omega) dX5_breakPart_14 ?_
    cases c3 : inB d 0 3000 with
    | false =>
      refine lv_if_eq (tgt := 31) hx hb dX5_breakPart_17 (by decide) (fun c4 => ?_) (fun c4 => ?_)
      rotate_left
      · exact absurd (by decide) c4
      have hcd : cdBrk ts t d lo = 2 := by unfold cdBrk; rw [etr, c3]; rfl
      refine lv_iconst (v := 2) hx hb dX5_breakPart_31 (by decide) ?_
      refine lv_goto (tgt := 49) hx hb dX5_breakPart_32 (by decide) ?_
      refine pf hx hb hts hown hE hS pkX5_71 rfl hO hM.2.1.2 rfl rfl (Nat.le_of_ble_eq_true rfl) dX5_breakPart_49 (fun H1 L1 hO1 hz1 hq1 hE hS => ?_)
      have hO : OB E 6 [.int 2, .ref (ad 1), .ref (ad 2), .ref (ad 3), .ref (ad 4), .int (sc 5), .int (sc 6), .ref (ad 7), .ref (ad 8), .ref (ad 9), .ref (ad 10), .ref (ad 11), .ref (ad 12), .ref (ad 13), .ref (ad 14), .ref (ad 15), .ref (ad 16), .int (sc 17), .ref (ad 18), .ref (ad 19), .ref (ad 20), .ref (ad 21), .ref (ad 22), .ref (ad 23)] x H1 := hO1
      have hF := hF.put hz1 hq1 (fun _ => ⟨by rw [hM.2.1.1], by rw [hM.2.1.1]; exact Nat.zero_le _⟩)
      have hM := hM.put (sc' := (upd sc 0 2)) hO hq1
      have hI : MI (upd sc 0 2) ar h0 h1 fx ts B := hI
      refine lv_aload_n hx hb dX5_breakPart_52 rfl (lv_at hl 0 rfl) ?_
      refine gf hx hb hts hown hE lkX5_71 hO rfl dX5_breakPart_53 ?_
      refine lv_if_le (tgt := 61) hx hb dX5_breakPart_56 (by decide) (fun c99 => ?_) (fun c99 => ?_)
      · exact absurd c99 (by decide)
      refine lv_iconst (v := 0) hx hb dX5_breakPart_59 (by decide) ?_
      exact cI hx hb hr hlk hB hS (by omega) (by omega) (⟨by rw [hcd]; rfl, Or.inl ⟨by rw [hcd]; decide, by rw [hcd]; exact ⟨⟨(upd sc 0 2), ad, ar, hM, hI, rfl⟩, hF, by omega⟩⟩⟩) dX5_breakPart_60
    | true =>
      refine lv_if_eq (tgt := 31) hx hb dX5_breakPart_17 (by decide) (fun c4 => ?_) (fun c4 => ?_)
      · exact absurd c4 (by decide)
      refine lv_iload_n hx hb dX5_breakPart_20 rfl (lv_at hl 3 rfl) ?_
      refine lv_iconst (v := 1) hx hb dX5_breakPart_21 (by decide) ?_
      refine lv_sipush (v := 1000) hx hb dX5_breakPart_22 (by decide) ?_
      refine pS hx hb hml hts hown hE kwX5_75 (c_in E lo 1 1000 H) (Nat.le_of_ble_eq_true rfl) rfl hl.1 rfl (Nat.le_of_ble_eq_true rfl) (by omega) (by omega) dX5_breakPart_25 ?_
      cases c5 : inB lo 1 1000 with
      | false =>
        refine lv_if_ne (tgt := 35) hx hb dX5_breakPart_28 (by decide) (fun c6 => ?_) (fun c6 => ?_)
        · exact absurd (by decide) c6
        have hcd : cdBrk ts t d lo = 2 := by unfold cdBrk; rw [etr, c3, c5]; rfl
        refine lv_iconst (v := 2) hx hb dX5_breakPart_31 (by decide) ?_
        refine lv_goto (tgt := 49) hx hb dX5_breakPart_32 (by decide) ?_
        refine pf hx hb hts hown hE hS pkX5_71 rfl hO hM.2.1.2 rfl rfl (Nat.le_of_ble_eq_true rfl) dX5_breakPart_49 (fun H1 L1 hO1 hz1 hq1 hE hS => ?_)
        have hO : OB E 6 [.int 2, .ref (ad 1), .ref (ad 2), .ref (ad 3), .ref (ad 4), .int (sc 5), .int (sc 6), .ref (ad 7), .ref (ad 8), .ref (ad 9), .ref (ad 10), .ref (ad 11), .ref (ad 12), .ref (ad 13), .ref (ad 14), .ref (ad 15), .ref (ad 16), .int (sc 17), .ref (ad 18), .ref (ad 19), .ref (ad 20), .ref (ad 21), .ref (ad 22), .ref (ad 23)] x H1 := hO1
        have hF := hF.put hz1 hq1 (fun _ => ⟨by rw [hM.2.1.1], by rw [hM.2.1.1]; exact Nat.zero_le _⟩)
        have hM := hM.put (sc' := (upd sc 0 2)) hO hq1
        have hI : MI (upd sc 0 2) ar h0 h1 fx ts B := hI
        refine lv_aload_n hx hb dX5_breakPart_52 rfl (lv_at hl 0 rfl) ?_
        refine gf hx hb hts hown hE lkX5_71 hO rfl dX5_breakPart_53 ?_
        refine lv_if_le (tgt := 61) hx hb dX5_breakPart_56 (by decide) (fun c99 => ?_) (fun c99 => ?_)
        · exact absurd c99 (by decide)
        refine lv_iconst (v := 0) hx hb dX5_breakPart_59 (by decide) ?_
        exact cI hx hb hr hlk hB hS (by omega) (by omega) (⟨by rw [hcd]; rfl, Or.inl ⟨by rw [hcd]; decide, by rw [hcd]; exact ⟨⟨(upd sc 0 2), ad, ar, hM, hI, rfl⟩, hF, by omega⟩⟩⟩) dX5_breakPart_60
      | true =>
        refine lv_if_ne (tgt := 35) hx hb dX5_breakPart_28 (by decide) (fun c6 => ?_) (fun c6 => ?_)
        rotate_left
        · exact absurd c6 (by decide)
        refine lv_aload_n hx hb dX5_breakPart_35 rfl (lv_at hl 0 rfl) ?_
        refine lv_iload_n hx hb dX5_breakPart_36 rfl (lv_at hl 1 rfl) ?_
        have hcc := c_mrest E x sc ad ar h0 h1 fx ts B i tr H hM.1 hI hV ht
        rw [← et] at hcc
        refine pV hx hb hml hts hown hE kwX5_118 hcc hO rfl (Nat.le_of_ble_eq_true rfl) rfl hl.1 rfl (Nat.le_of_ble_eq_true rfl) (by omega) (by omega) dX5_breakPart_37 ?_
        refine lv_iload_n hx hb dX5_breakPart_40 rfl (lv_at hl 3 rfl) ?_
        refine lv_icmp_ge (tgt := 48) hx hb dX5_breakPart_41 (by decide) (fun c7 => ?_) (fun c7 => ?_)
        · have hcd : cdBrk ts t d lo = 0 := by unfold cdBrk; rw [etr]; simp only; rw [c3, c5]; simp only [Bool.and_self, if_true]; exact if_neg (Int32.not_lt.mpr c7)
          refine lv_iconst (v := 0) hx hb dX5_breakPart_48 (by decide) ?_
          refine pf hx hb hts hown hE hS pkX5_71 rfl hO hM.2.1.2 rfl rfl (Nat.le_of_ble_eq_true rfl) dX5_breakPart_49 (fun H1 L1 hO1 hz1 hq1 hE hS => ?_)
          have hO : OB E 6 [.int 0, .ref (ad 1), .ref (ad 2), .ref (ad 3), .ref (ad 4), .int (sc 5), .int (sc 6), .ref (ad 7), .ref (ad 8), .ref (ad 9), .ref (ad 10), .ref (ad 11), .ref (ad 12), .ref (ad 13), .ref (ad 14), .ref (ad 15), .ref (ad 16), .int (sc 17), .ref (ad 18), .ref (ad 19), .ref (ad 20), .ref (ad 21), .ref (ad 22), .ref (ad 23)] x H1 := hO1
          have hF := hF.put hz1 hq1 (fun _ => ⟨by rw [hM.2.1.1], by rw [hM.2.1.1]; exact Nat.zero_le _⟩)
          have hM := hM.put (sc' := (upd sc 0 0)) hO hq1
          have hI : MI (upd sc 0 0) ar h0 h1 fx ts B := hI
          refine lv_aload_n hx hb dX5_breakPart_52 rfl (lv_at hl 0 rfl) ?_
          refine gf hx hb hts hown hE lkX5_71 hO rfl dX5_breakPart_53 ?_
          refine lv_if_le (tgt := 61) hx hb dX5_breakPart_56 (by decide) (fun c99 => ?_) (fun c99 => ?_)
          rotate_left
          · exact absurd (by decide) c99
          refine lv_aload_n hx hb dX5_breakPart_61 rfl (lv_at hl 0 rfl) ?_
          refine lv_iload_n hx hb dX5_breakPart_62 rfl (lv_at hl 1 rfl) ?_
          refine lv_iload_n hx hb dX5_breakPart_63 rfl (lv_at hl 2 rfl) ?_
          refine lv_iload_n hx hb dX5_breakPart_64 rfl (lv_at hl 3 rfl) ?_
          subst et
          have hF0 := hF
          refine gVU hx hb hml hts hown hB hE hS kwX5_121 (c_mbreaks E ow x (upd sc 0 0) ad ar h0 h1 fx ts B i tr d lo 0 H1 hM hI hV rfl ht hB9) hO rfl (Nat.le_of_ble_eq_true rfl) rfl hl.1 rfl (Nat.le_of_ble_eq_true rfl) (by omega) (by omega) dX5_breakPart_65 (fun H2 L2 hG hz2 hE hS => ?_)
          obtain ⟨⟨sc2, ad2, ar2, hM2, hI2, hc2⟩, hF2, hz9⟩ := hG
          have hO := hM2.1.1
          refine lv_aload_n hx hb dX5_breakPart_68 rfl (lv_at hl 0 rfl) ?_
          refine lv_iload_n hx hb dX5_breakPart_69 rfl (lv_at hl 1 rfl) ?_
          refine pV hx hb hml hts hown hE kwX5_115 (c_mcount E x sc2 ad2 ar2 h0 h1 fx (ts.set i (brT tr d lo)) (B ++ [(nI i, d, lo)]) i H2 hM2.1 hI2 (hV.set (tv_brT2 (hV.tv ht) c3 lo)) hi10) hO rfl (Nat.le_of_ble_eq_true rfl) rfl hl.1 rfl (Nat.le_of_ble_eq_true rfl) (by omega) (by omega) dX5_breakPart_70 ?_
          have hbl : (brk (B ++ [(nI i, d, lo)]) i).length = tr.2.1.length + 1 := by rw [← hI2.2.2.2.2.2.2.2.2.2.1 i _ (List.getElem?_set_self hi)]; unfold brT; rw [List.length_append]; rfl
          exact cI hx hb hr hlk hB hS (by omega) (by omega) (⟨by rw [hcd, etr, hbl]; rfl, Or.inr ⟨hcd, tr, i, rfl, ht, ⟨sc2, ad2, ar2, hM2, hI2, hc2⟩, hF0.tr hF2 (fun _ _ h => h), by omega⟩⟩) dX5_breakPart_73
        · have hcd : cdBrk ts t d lo = 3 := by unfold cdBrk; rw [etr]; simp only; rw [c3, c5]; simp only [Bool.and_self, if_true]; exact if_pos (Int32.not_le.mp c7)
          refine lv_iconst (v := 3) hx hb dX5_breakPart_44 (by decide) ?_
          refine lv_goto (tgt := 49) hx hb dX5_breakPart_45 (by decide) ?_
          refine pf hx hb hts hown hE hS pkX5_71 rfl hO hM.2.1.2 rfl rfl (Nat.le_of_ble_eq_true rfl) dX5_breakPart_49 (fun H1 L1 hO1 hz1 hq1 hE hS => ?_)
          have hO : OB E 6 [.int 3, .ref (ad 1), .ref (ad 2), .ref (ad 3), .ref (ad 4), .int (sc 5), .int (sc 6), .ref (ad 7), .ref (ad 8), .ref (ad 9), .ref (ad 10), .ref (ad 11), .ref (ad 12), .ref (ad 13), .ref (ad 14), .ref (ad 15), .ref (ad 16), .int (sc 17), .ref (ad 18), .ref (ad 19), .ref (ad 20), .ref (ad 21), .ref (ad 22), .ref (ad 23)] x H1 := hO1
          have hF := hF.put hz1 hq1 (fun _ => ⟨by rw [hM.2.1.1], by rw [hM.2.1.1]; exact Nat.zero_le _⟩)
          have hM := hM.put (sc' := (upd sc 0 3)) hO hq1
          have hI : MI (upd sc 0 3) ar h0 h1 fx ts B := hI
          refine lv_aload_n hx hb dX5_breakPart_52 rfl (lv_at hl 0 rfl) ?_
          refine gf hx hb hts hown hE lkX5_71 hO rfl dX5_breakPart_53 ?_
          refine lv_if_le (tgt := 61) hx hb dX5_breakPart_56 (by decide) (fun c99 => ?_) (fun c99 => ?_)
          · exact absurd c99 (by decide)
          refine lv_iconst (v := 0) hx hb dX5_breakPart_59 (by decide) ?_
          exact cI hx hb hr hlk hB hS (by omega) (by omega) (⟨by rw [hcd]; rfl, Or.inl ⟨by rw [hcd]; decide, by rw [hcd]; exact ⟨⟨(upd sc 0 3), ad, ar, hM, hI, rfl⟩, hF, by omega⟩⟩⟩) dX5_breakPart_60

set_option maxRecDepth 100000 in
set_option maxHeartbeats 4000000 in
/-- setTerms -/
theorem c_mset (E : ET) (ow : Nat → Nat × Nat) (x : Nat) (sc : Nat → Int32) (ad : Nat → Nat) (ar : Nat → Nat → Int32) (h0 h1 fx : Dy) (ts : List TR) (B : BK) (t sp dc co9 : Int32) (H : Heap) (hM : MR E ow x sc ad ar H) (hI : MI sc ar h0 h1 fx ts B) (hV : SV h0 h1 fx ts)  : Con E yX5_setTerms cX5_setTerms 6 (none : Option FieldType) 4 0 0 [.ref x, .int t, .int sp, .int dc, .int co9] H (o1 none (fun H' => (¬ cdSet ts t sp dc co9 = 0 ∧ MO E ow x h0 h1 fx ts B (cdSet ts t sp dc co9) H H') ∨ (cdSet ts t sp dc co9 = 0 ∧ ∃ tr i, t = nI i ∧ ts[i]? = some tr ∧ MO E ow x h0 h1 fx (ts.set i (setT tr.1 sp dc co9, tr.2.1, tr.2.2)) B 0 H H'))) := by
  refine Con.of (C := RX5) rfl (by decide +kernel) (Nat.le_of_ble_eq_true rfl) ?_
  intro p e s m below meth co ls hx hb hr hlk hml hown hts hin hE hH hS hl
  have hl : lv_has ls 6 [(0, .ref x), (1, .int t), (2, .int sp), (3, .int dc), (4, .int co9)] := hl
  have hB : eB E ≤ s.heap.size := by rw [hH]; exact hE.2.1
  have hO := hM.1.1
  have htn := hV.tn
  have hn6 := hI.2.2.2.2.1
  have hF : FR (fun z => (ow z).1 = 4 ∧ (ow z).2 ≤ 23) H H := FR.rf
  refine lv_iload_n hx hb dX5_setTerms_0 rfl (lv_at hl 2 rfl) ?_
  refine lv_sipush (v := (-500)) hx hb dX5_setTerms_1 (by decide) ?_
  refine lv_sipush (v := 500) hx hb dX5_setTerms_4 (by decide) ?_
  refine pS hx hb hml hts hown hE kwX5_75 (c_in E sp (-500) 500 H) (Nat.le_of_ble_eq_true rfl) rfl hl.1 rfl (Nat.le_of_ble_eq_true rfl) (by omega) (by omega) dX5_setTerms_7 ?_
  cases d1 : inB sp (-500) 500 with
  | false =>
    refine lv_if_eq (tgt := 36) hx hb dX5_setTerms_10 (by decide) (fun e1 => ?_) (fun e1 => ?_)
    rotate_left
    · exact absurd (by decide) e1
    have hrng : (inB sp (-500) 500 && (inB dc 0 1 && inB co9 0 2)) = false := by rw [d1]; rfl
    refine lv_iconst (v := 0) hx hb dX5_setTerms_36 (by decide) ?_
    refine lv_istore (lv' := [(5, .int 0), (0, .ref x), (1, .int t), (2, .int sp), (3, .int dc), (4, .int co9)]) hx hb dX5_setTerms_37 hl (by decide) rfl (fun ls hl => ?_)
    refine lv_aload_n hx hb dX5_setTerms_39 rfl (lv_at hl 1 rfl) ?_
    refine lv_aload_n hx hb dX5_setTerms_40 rfl (lv_at hl 1 rfl) ?_
    refine lv_iload_n hx hb dX5_setTerms_41 rfl (lv_at hl 2 rfl) ?_
    refine pV hx hb hml hts hown hE kwX5_82 (c_isTrade E x sc ad ar t H hM.1) hO rfl (Nat.le_of_ble_eq_true rfl) rfl hl.1 rfl (Nat.le_of_ble_eq_true rfl) (by omega) (by omega) dX5_setTerms_42 ?_
    rw [show inB t 0 (sc 6 - 1) = inB t 0 (nI ts.length - 1) by rw [← hn6]]
    cases c1 : inB t 0 (nI ts.length - 1) with
    | false =>
      have etr : trd ts t = none := trd_no (fun ⟨i, hi, e⟩ => by rw [(inB_pred (h := by omega)).mpr ⟨i, hi, e⟩] at c1; cases c1)
      refine lv_if_ne (tgt := 52) hx hb dX5_setTerms_45 (by decide) (fun c2 => ?_) (fun c2 => ?_)
      · exact absurd (by decide) c2
      have hcd : cdSet ts t sp dc co9 = 1 := by unfold cdSet; rw [etr]
      refine lv_iconst (v := 1) hx hb dX5_setTerms_48 (by decide) ?_
      refine lv_goto (tgt := 74) hx hb dX5_setTerms_49 (by decide) ?_
      refine pf hx hb hts hown hE hS pkX5_71 rfl hO hM.2.1.2 rfl rfl (Nat.le_of_ble_eq_true rfl) dX5_setTerms_74 (fun H1 L1 hO1 hz1 hq1 hE hS => ?_)
      have hO : OB E 6 [.int 1, .ref (ad 1), .ref (ad 2), .ref (ad 3), .ref (ad 4), .int (sc 5), .int (sc 6), .ref (ad 7), .ref (ad 8), .ref (ad 9), .ref (ad 10), .ref (ad 11), .ref (ad 12), .ref (ad 13), .ref (ad 14), .ref (ad 15), .ref (ad 16), .int (sc 17), .ref (ad 18), .ref (ad 19), .ref (ad 20), .ref (ad 21), .ref (ad 22), .ref (ad 23)] x H1 := hO1
      have hF := hF.put hz1 hq1 (fun _ => ⟨by rw [hM.2.1.1], by rw [hM.2.1.1]; exact Nat.zero_le _⟩)
      have hM := hM.put (sc' := (upd sc 0 1)) hO hq1
      have hI : MI (upd sc 0 1) ar h0 h1 fx ts B := hI
      refine lv_aload_n hx hb dX5_setTerms_77 rfl (lv_at hl 1 rfl) ?_
      refine gf hx hb hts hown hE lkX5_71 hO rfl dX5_setTerms_78 ?_
      refine lv_if_ne (tgt := 106) hx hb dX5_setTerms_81 (by decide) (fun c99 => ?_) (fun c99 => ?_)
      rotate_left
      · exact absurd c99 (by decide)
      exact cU hx hb hr hlk hB hS (by omega) (by omega) (⟨rfl, Or.inl ⟨by rw [hcd]; decide, by rw [hcd]; exact ⟨⟨(upd sc 0 1), ad, ar, hM, hI, rfl⟩, hF, by omega⟩⟩⟩) dX5_setTerms_106
    | true =>
      obtain ⟨i, hi, et⟩ := (inB_pred (n := ts.length) (h := by omega)).mp c1
      obtain ⟨tr, ht⟩ := getq hi
      have etr : trd ts t = some tr := by rw [et, trd_nI (by omega)]; exact ht
      have hi10 : i < 10 := by omega
      refine lv_if_ne (tgt := 52) hx hb dX5_setTerms_45 (by decide) (fun c2 => ?_) (fun c2 => ?_)
      rotate_left
      · exact absurd c2 (by decide)
      refine lv_iload hx hb dX5_setTerms_52 (lv_at hl 0 rfl) ?_
      refine lv_if_ne (tgt := 61) hx hb dX5_setTerms_54 (by decide) (fun c88 => ?_) (fun c88 => ?_)
      · exact absurd (by decide) c88
      have hcd : cdSet ts t sp dc co9 = 2 := by unfold cdSet; rw [etr]; simp only; rw [hrng]; rfl
      refine lv_iconst (v := 2) hx hb dX5_setTerms_57 (by decide) ?_
      refine lv_goto (tgt := 74) hx hb dX5_setTerms_58 (by decide) ?_
      refine pf hx hb hts hown hE hS pkX5_71 rfl hO hM.2.1.2 rfl rfl (Nat.le_of_ble_eq_true rfl) dX5_setTerms_74 (fun H1 L1 hO1 hz1 hq1 hE hS => ?_)
      have hO : OB E 6 [.int 2, .ref (ad 1), .ref (ad 2), .ref (ad 3), .ref (ad 4), .int (sc 5), .int (sc 6), .ref (ad 7), .ref (ad 8), .ref (ad 9), .ref (ad 10), .ref (ad 11), .ref (ad 12), .ref (ad 13), .ref (ad 14), .ref (ad 15), .ref (ad 16), .int (sc 17), .ref (ad 18), .ref (ad 19), .ref (ad 20), .ref (ad 21), .ref (ad 22), .ref (ad 23)] x H1 := hO1
      have hF := hF.put hz1 hq1 (fun _ => ⟨by rw [hM.2.1.1], by rw [hM.2.1.1]; exact Nat.zero_le _⟩)
      have hM := hM.put (sc' := (upd sc 0 2)) hO hq1
      have hI : MI (upd sc 0 2) ar h0 h1 fx ts B := hI
      refine lv_aload_n hx hb dX5_setTerms_77 rfl (lv_at hl 1 rfl) ?_
      refine gf hx hb hts hown hE lkX5_71 hO rfl dX5_setTerms_78 ?_
      refine lv_if_ne (tgt := 106) hx hb dX5_setTerms_81 (by decide) (fun c99 => ?_) (fun c99 => ?_)
      rotate_left
      · exact absurd c99 (by decide)
      exact cU hx hb hr hlk hB hS (by omega) (by omega) (⟨rfl, Or.inl ⟨by rw [hcd]; decide, by rw [hcd]; exact ⟨⟨(upd sc 0 2), ad, ar, hM, hI, rfl⟩, hF, by omega⟩⟩⟩) dX5_setTerms_106
  | true =>
    refine lv_if_eq (tgt := 36) hx hb dX5_setTerms_10 (by decide) (fun e1 => ?_) (fun e1 => ?_)
    · exact absurd e1 (by decide)
    refine lv_iload_n hx hb dX5_setTerms_13 rfl (lv_at hl 3 rfl) ?_
    refine lv_iconst (v := 0) hx hb dX5_setTerms_14 (by decide) ?_
    refine lv_iconst (v := 1) hx hb dX5_setTerms_15 (by decide) ?_
    refine pS hx hb hml hts hown hE kwX5_75 (c_in E dc 0 1 H) (Nat.le_of_ble_eq_true rfl) rfl hl.1 rfl (Nat.le_of_ble_eq_true rfl) (by omega) (by omega) dX5_setTerms_16 ?_
    cases d2 : inB dc 0 1 with
    | false =>
      refine lv_if_eq (tgt := 36) hx hb dX5_setTerms_19 (by decide) (fun e2 => ?_) (fun e2 => ?_)
      rotate_left
      · exact absurd (by decide) e2
      have hrng : (inB sp (-500) 500 && (inB dc 0 1 && inB co9 0 2)) = false := by rw [d1, d2]; rfl
      refine lv_iconst (v := 0) hx hb dX5_setTerms_36 (by decide) ?_
      refine lv_istore (lv' := [(5, .int 0), (0, .ref x), (1, .int t), (2, .int sp), (3, .int dc), (4, .int co9)]) hx hb dX5_setTerms_37 hl (by decide) rfl (fun ls hl => ?_)
      refine lv_aload_n hx hb dX5_setTerms_39 rfl (lv_at hl 1 rfl) ?_
      refine lv_aload_n hx hb dX5_setTerms_40 rfl (lv_at hl 1 rfl) ?_
      refine lv_iload_n hx hb dX5_setTerms_41 rfl (lv_at hl 2 rfl) ?_
      refine pV hx hb hml hts hown hE kwX5_82 (c_isTrade E x sc ad ar t H hM.1) hO rfl (Nat.le_of_ble_eq_true rfl) rfl hl.1 rfl (Nat.le_of_ble_eq_true rfl) (by omega) (by omega) dX5_setTerms_42 ?_
      rw [show inB t 0 (sc 6 - 1) = inB t 0 (nI ts.length - 1) by rw [← hn6]]
      cases c1 : inB t 0 (nI ts.length - 1) with
      | false =>
        have etr : trd ts t = none := trd_no (fun ⟨i, hi, e⟩ => by rw [(inB_pred (h := by omega)).mpr ⟨i, hi, e⟩] at c1; cases c1)
        refine lv_if_ne (tgt := 52) hx hb dX5_setTerms_45 (by decide) (fun c2 => ?_) (fun c2 => ?_)
        · exact absurd (by decide) c2
        have hcd : cdSet ts t sp dc co9 = 1 := by unfold cdSet; rw [etr]
        refine lv_iconst (v := 1) hx hb dX5_setTerms_48 (by decide) ?_
        refine lv_goto (tgt := 74) hx hb dX5_setTerms_49 (by decide) ?_
        refine pf hx hb hts hown hE hS pkX5_71 rfl hO hM.2.1.2 rfl rfl (Nat.le_of_ble_eq_true rfl) dX5_setTerms_74 (fun H1 L1 hO1 hz1 hq1 hE hS => ?_)
        have hO : OB E 6 [.int 1, .ref (ad 1), .ref (ad 2), .ref (ad 3), .ref (ad 4), .int (sc 5), .int (sc 6), .ref (ad 7), .ref (ad 8), .ref (ad 9), .ref (ad 10), .ref (ad 11), .ref (ad 12), .ref (ad 13), .ref (ad 14), .ref (ad 15), .ref (ad 16), .int (sc 17), .ref (ad 18), .ref (ad 19), .ref (ad 20), .ref (ad 21), .ref (ad 22), .ref (ad 23)] x H1 := hO1
        have hF := hF.put hz1 hq1 (fun _ => ⟨by rw [hM.2.1.1], by rw [hM.2.1.1]; exact Nat.zero_le _⟩)
        have hM := hM.put (sc' := (upd sc 0 1)) hO hq1
        have hI : MI (upd sc 0 1) ar h0 h1 fx ts B := hI
        refine lv_aload_n hx hb dX5_setTerms_77 rfl (lv_at hl 1 rfl) ?_
        refine gf hx hb hts hown hE lkX5_71 hO rfl dX5_setTerms_78 ?_
        refine lv_if_ne (tgt := 106) hx hb dX5_setTerms_81 (by decide) (fun c99 => ?_) (fun c99 => ?_)
        rotate_left
        · exact absurd c99 (by decide)
        exact cU hx hb hr hlk hB hS (by omega) (by omega) (⟨rfl, Or.inl ⟨by rw [hcd]; decide, by rw [hcd]; exact ⟨⟨(upd sc 0 1), ad, ar, hM, hI, rfl⟩, hF, by omega⟩⟩⟩) dX5_setTerms_106
      | true =>
        obtain ⟨i, hi, et⟩ := (inB_pred (n := ts.length) (h := by omega)).mp c1
        obtain ⟨tr, ht⟩ := getq hi
        have etr : trd ts t = some tr := by rw [et, trd_nI (by omega)]; exact ht
        have hi10 : i < 10 := by omega
        refine lv_if_ne (tgt := 52) hx hb dX5_setTerms_45 (by decide) (fun c2 => ?_) (fun c2 => ?_)
        rotate_left
        · exact absurd c2 (by decide)
        refine lv_iload hx hb dX5_setTerms_52 (lv_at hl 0 rfl) ?_
        refine lv_if_ne (tgt := 61) hx hb dX5_setTerms_54 (by decide) (fun c88 => ?_) (fun c88 => ?_)
        · exact absurd (by decide) c88
        have hcd : cdSet ts t sp dc co9 = 2 := by unfold cdSet; rw [etr]; simp only; rw [hrng]; rfl
        refine lv_iconst (v := 2) hx hb dX5_setTerms_57 (by decide) ?_
        refine lv_goto (tgt := 74) hx hb dX5_setTerms_58 (by decide) ?_
        refine pf hx hb hts hown hE hS pkX5_71 rfl hO hM.2.1.2 rfl rfl (Nat.le_of_ble_eq_true rfl) dX5_setTerms_74 (fun H1 L1 hO1 hz1 hq1 hE hS => ?_)
        have hO : OB E 6 [.int 2, .ref (ad 1), .ref (ad 2), .ref (ad 3), .ref (ad 4), .int (sc 5), .int (sc 6), .ref (ad 7), .ref (ad 8), .ref (ad 9), .ref (ad 10), .ref (ad 11), .ref (ad 12), .ref (ad 13), .ref (ad 14), .ref (ad 15), .ref (ad 16), .int (sc 17), .ref (ad 18), .ref (ad 19), .ref (ad 20), .ref (ad 21), .ref (ad 22), .ref (ad 23)] x H1 := hO1
        have hF := hF.put hz1 hq1 (fun _ => ⟨by rw [hM.2.1.1], by rw [hM.2.1.1]; exact Nat.zero_le _⟩)
        have hM := hM.put (sc' := (upd sc 0 2)) hO hq1
        have hI : MI (upd sc 0 2) ar h0 h1 fx ts B := hI
        refine lv_aload_n hx hb dX5_setTerms_77 rfl (lv_at hl 1 rfl) ?_
        refine gf hx hb hts hown hE lkX5_71 hO rfl dX5_setTerms_78 ?_
        refine lv_if_ne (tgt := 106) hx hb dX5_setTerms_81 (by decide) (fun c99 => ?_) (fun c99 => ?_)
        rotate_left
        · exact absurd c99 (by decide)
        exact cU hx hb hr hlk hB hS (by omega) (by omega) (⟨rfl, Or.inl ⟨by rw [hcd]; decide, by rw [hcd]; exact ⟨⟨(upd sc 0 2), ad, ar, hM, hI, rfl⟩, hF, by omega⟩⟩⟩) dX5_setTerms_106
    | true =>
      refine lv_if_eq (tgt := 36) hx hb dX5_setTerms_19 (by decide) (fun e2 => ?_) (fun e2 => ?_)
      · exact absurd e2 (by decide)
      refine lv_iload hx hb dX5_setTerms_22 (lv_at hl 4 rfl) ?_
      refine lv_iconst (v := 0) hx hb dX5_setTerms_24 (by decide) ?_
      refine lv_iconst (v := 2) hx hb dX5_setTerms_25 (by decide) ?_
      refine pS hx hb hml hts hown hE kwX5_75 (c_in E co9 0 2 H) (Nat.le_of_ble_eq_true rfl) rfl hl.1 rfl (Nat.le_of_ble_eq_true rfl) (by omega) (by omega) dX5_setTerms_26 ?_
      cases d3 : inB co9 0 2 with
      | false =>
        refine lv_if_eq (tgt := 36) hx hb dX5_setTerms_29 (by decide) (fun e3 => ?_) (fun e3 => ?_)
        rotate_left
        · exact absurd (by decide) e3
        have hrng : (inB sp (-500) 500 && (inB dc 0 1 && inB co9 0 2)) = false := by rw [d1, d2, d3]; rfl
        refine lv_iconst (v := 0) hx hb dX5_setTerms_36 (by decide) ?_
        refine lv_istore (lv' := [(5, .int 0), (0, .ref x), (1, .int t), (2, .int sp), (3, .int dc), (4, .int co9)]) hx hb dX5_setTerms_37 hl (by decide) rfl (fun ls hl => ?_)
        refine lv_aload_n hx hb dX5_setTerms_39 rfl (lv_at hl 1 rfl) ?_
        refine lv_aload_n hx hb dX5_setTerms_40 rfl (lv_at hl 1 rfl) ?_
        refine lv_iload_n hx hb dX5_setTerms_41 rfl (lv_at hl 2 rfl) ?_
        refine pV hx hb hml hts hown hE kwX5_82 (c_isTrade E x sc ad ar t H hM.1) hO rfl (Nat.le_of_ble_eq_true rfl) rfl hl.1 rfl (Nat.le_of_ble_eq_true rfl) (by omega) (by omega) dX5_setTerms_42 ?_
        rw [show inB t 0 (sc 6 - 1) = inB t 0 (nI ts.length - 1) by rw [← hn6]]
        cases c1 : inB t 0 (nI ts.length - 1) with
        | false =>
          have etr : trd ts t = none := trd_no (fun ⟨i, hi, e⟩ => by rw [(inB_pred (h := by omega)).mpr ⟨i, hi, e⟩] at c1; cases c1)
          refine lv_if_ne (tgt := 52) hx hb dX5_setTerms_45 (by decide) (fun c2 => ?_) (fun c2 => ?_)
          · exact absurd (by decide) c2
          have hcd : cdSet ts t sp dc co9 = 1 := by unfold cdSet; rw [etr]
          refine lv_iconst (v := 1) hx hb dX5_setTerms_48 (by decide) ?_
          refine lv_goto (tgt := 74) hx hb dX5_setTerms_49 (by decide) ?_
          refine pf hx hb hts hown hE hS pkX5_71 rfl hO hM.2.1.2 rfl rfl (Nat.le_of_ble_eq_true rfl) dX5_setTerms_74 (fun H1 L1 hO1 hz1 hq1 hE hS => ?_)
          have hO : OB E 6 [.int 1, .ref (ad 1), .ref (ad 2), .ref (ad 3), .ref (ad 4), .int (sc 5), .int (sc 6), .ref (ad 7), .ref (ad 8), .ref (ad 9), .ref (ad 10), .ref (ad 11), .ref (ad 12), .ref (ad 13), .ref (ad 14), .ref (ad 15), .ref (ad 16), .int (sc 17), .ref (ad 18), .ref (ad 19), .ref (ad 20), .ref (ad 21), .ref (ad 22), .ref (ad 23)] x H1 := hO1
          have hF := hF.put hz1 hq1 (fun _ => ⟨by rw [hM.2.1.1], by rw [hM.2.1.1]; exact Nat.zero_le _⟩)
          have hM := hM.put (sc' := (upd sc 0 1)) hO hq1
          have hI : MI (upd sc 0 1) ar h0 h1 fx ts B := hI
          refine lv_aload_n hx hb dX5_setTerms_77 rfl (lv_at hl 1 rfl) ?_
          refine gf hx hb hts hown hE lkX5_71 hO rfl dX5_setTerms_78 ?_
          refine lv_if_ne (tgt := 106) hx hb dX5_setTerms_81 (by decide) (fun c99 => ?_) (fun c99 => ?_)
          rotate_left
          · exact absurd c99 (by decide)
          exact cU hx hb hr hlk hB hS (by omega) (by omega) (⟨rfl, Or.inl ⟨by rw [hcd]; decide, by rw [hcd]; exact ⟨⟨(upd sc 0 1), ad, ar, hM, hI, rfl⟩, hF, by omega⟩⟩⟩) dX5_setTerms_106
        | true =>
          obtain ⟨i, hi, et⟩ := (inB_pred (n := ts.length) (h := by omega)).mp c1
          obtain ⟨tr, ht⟩ := getq hi
          have etr : trd ts t = some tr := by rw [et, trd_nI (by omega)]; exact ht
          have hi10 : i < 10 := by omega
          refine lv_if_ne (tgt := 52) hx hb dX5_setTerms_45 (by decide) (fun c2 => ?_) (fun c2 => ?_)
          rotate_left
          · exact absurd c2 (by decide)
          refine lv_iload hx hb dX5_setTerms_52 (lv_at hl 0 rfl) ?_
          refine lv_if_ne (tgt := 61) hx hb dX5_setTerms_54 (by decide) (fun c88 => ?_) (fun c88 => ?_)
          · exact absurd (by decide) c88
          have hcd : cdSet ts t sp dc co9 = 2 := by unfold cdSet; rw [etr]; simp only; rw [hrng]; rfl
          refine lv_iconst (v := 2) hx hb dX5_setTerms_57 (by decide) ?_
          refine lv_goto (tgt := 74) hx hb dX5_setTerms_58 (by decide) ?_
          refine pf hx hb hts hown hE hS pkX5_71 rfl hO hM.2.1.2 rfl rfl (Nat.le_of_ble_eq_true rfl) dX5_setTerms_74 (fun H1 L1 hO1 hz1 hq1 hE hS => ?_)
          have hO : OB E 6 [.int 2, .ref (ad 1), .ref (ad 2), .ref (ad 3), .ref (ad 4), .int (sc 5), .int (sc 6), .ref (ad 7), .ref (ad 8), .ref (ad 9), .ref (ad 10), .ref (ad 11), .ref (ad 12), .ref (ad 13), .ref (ad 14), .ref (ad 15), .ref (ad 16), .int (sc 17), .ref (ad 18), .ref (ad 19), .ref (ad 20), .ref (ad 21), .ref (ad 22), .ref (ad 23)] x H1 := hO1
          have hF := hF.put hz1 hq1 (fun _ => ⟨by rw [hM.2.1.1], by rw [hM.2.1.1]; exact Nat.zero_le _⟩)
          have hM := hM.put (sc' := (upd sc 0 2)) hO hq1
          have hI : MI (upd sc 0 2) ar h0 h1 fx ts B := hI
          refine lv_aload_n hx hb dX5_setTerms_77 rfl (lv_at hl 1 rfl) ?_
          refine gf hx hb hts hown hE lkX5_71 hO rfl dX5_setTerms_78 ?_
          refine lv_if_ne (tgt := 106) hx hb dX5_setTerms_81 (by decide) (fun c99 => ?_) (fun c99 => ?_)
          rotate_left
          · exact absurd c99 (by decide)
          exact cU hx hb hr hlk hB hS (by omega) (by omega) (⟨rfl, Or.inl ⟨by rw [hcd]; decide, by rw [hcd]; exact ⟨⟨(upd sc 0 2), ad, ar, hM, hI, rfl⟩, hF, by omega⟩⟩⟩) dX5_setTerms_106
      | true =>
        refine lv_if_eq (tgt := 36) hx hb dX5_setTerms_29 (by decide) (fun e3 => ?_) (fun e3 => ?_)
        · exact absurd e3 (by decide)
        have hrng : (inB sp (-500) 500 && (inB dc 0 1 && inB co9 0 2)) = true := by rw [d1, d2, d3]; rfl
        refine lv_iconst (v := 1) hx hb dX5_setTerms_32 (by decide) ?_
        refine lv_goto (tgt := 37) hx hb dX5_setTerms_33 (by decide) ?_
        refine lv_istore (lv' := [(5, .int 1), (0, .ref x), (1, .int t), (2, .int sp), (3, .int dc), (4, .int co9)]) hx hb dX5_setTerms_37 hl (by decide) rfl (fun ls hl => ?_)
        refine lv_aload_n hx hb dX5_setTerms_39 rfl (lv_at hl 1 rfl) ?_
        refine lv_aload_n hx hb dX5_setTerms_40 rfl (lv_at hl 1 rfl) ?_
        refine lv_iload_n hx hb dX5_setTerms_41 rfl (lv_at hl 2 rfl) ?_
        refine pV hx hb hml hts hown hE kwX5_82 (c_isTrade E x sc ad ar t H hM.1) hO rfl (Nat.le_of_ble_eq_true rfl) rfl hl.1 rfl (Nat.le_of_ble_eq_true rfl) (by omega) (by omega) dX5_setTerms_42 ?_
        rw [show inB t 0 (sc 6 - 1) = inB t 0 (nI ts.length - 1) by rw [← hn6]]
        cases c1 : inB t 0 (nI ts.length - 1) with
        | false =>
          have etr : trd ts t = none := trd_no (fun ⟨i, hi, e⟩ => by rw [(inB_pred (h := by omega)).mpr ⟨i, hi, e⟩] at c1; cases c1)
          refine lv_if_ne (tgt := 52) hx hb dX5_setTerms_45 (by decide) (fun c2 => ?_) (fun c2 => ?_)
          · exact absurd (by decide) c2
          have hcd : cdSet ts t sp dc co9 = 1 := by unfold cdSet; rw [etr]
          refine lv_iconst (v := 1) hx hb dX5_setTerms_48 (by decide) ?_
          refine lv_goto (tgt := 74) hx hb dX5_setTerms_49 (by decide) ?_
          refine pf hx hb hts hown hE hS pkX5_71 rfl hO hM.2.1.2 rfl rfl (Nat.le_of_ble_eq_true rfl) dX5_setTerms_74 (fun H1 L1 hO1 hz1 hq1 hE hS => ?_)
          have hO : OB E 6 [.int 1, .ref (ad 1), .ref (ad 2), .ref (ad 3), .ref (ad 4), .int (sc 5), .int (sc 6), .ref (ad 7), .ref (ad 8), .ref (ad 9), .ref (ad 10), .ref (ad 11), .ref (ad 12), .ref (ad 13), .ref (ad 14), .ref (ad 15), .ref (ad 16), .int (sc 17), .ref (ad 18), .ref (ad 19), .ref (ad 20), .ref (ad 21), .ref (ad 22), .ref (ad 23)] x H1 := hO1
          have hF := hF.put hz1 hq1 (fun _ => ⟨by rw [hM.2.1.1], by rw [hM.2.1.1]; exact Nat.zero_le _⟩)
          have hM := hM.put (sc' := (upd sc 0 1)) hO hq1
          have hI : MI (upd sc 0 1) ar h0 h1 fx ts B := hI
          refine lv_aload_n hx hb dX5_setTerms_77 rfl (lv_at hl 1 rfl) ?_
          refine gf hx hb hts hown hE lkX5_71 hO rfl dX5_setTerms_78 ?_
          refine lv_if_ne (tgt := 106) hx hb dX5_setTerms_81 (by decide) (fun c99 => ?_) (fun c99 => ?_)
          rotate_left
          · exact absurd c99 (by decide)
          exact cU hx hb hr hlk hB hS (by omega) (by omega) (⟨rfl, Or.inl ⟨by rw [hcd]; decide, by rw [hcd]; exact ⟨⟨(upd sc 0 1), ad, ar, hM, hI, rfl⟩, hF, by omega⟩⟩⟩) dX5_setTerms_106
        | true =>
          obtain ⟨i, hi, et⟩ := (inB_pred (n := ts.length) (h := by omega)).mp c1
          obtain ⟨tr, ht⟩ := getq hi
          have etr : trd ts t = some tr := by rw [et, trd_nI (by omega)]; exact ht
          have hi10 : i < 10 := by omega
          refine lv_if_ne (tgt := 52) hx hb dX5_setTerms_45 (by decide) (fun c2 => ?_) (fun c2 => ?_)
          rotate_left
          · exact absurd c2 (by decide)
          refine lv_iload hx hb dX5_setTerms_52 (lv_at hl 0 rfl) ?_
          refine lv_if_ne (tgt := 61) hx hb dX5_setTerms_54 (by decide) (fun c88 => ?_) (fun c88 => ?_)
          rotate_left
          · exact absurd c88 (by decide)
          refine lv_aload_n hx hb dX5_setTerms_61 rfl (lv_at hl 1 rfl) ?_
          refine lv_iload_n hx hb dX5_setTerms_62 rfl (lv_at hl 2 rfl) ?_
          have hcc := c_mcount E x sc ad ar h0 h1 fx ts B i H hM.1 hI hV hi10
          rw [← et, ← hI.2.2.2.2.2.2.2.2.2.1 i tr ht] at hcc
          have hkl : tr.2.1.length ≤ 9000 := by rw [hI.2.2.2.2.2.2.2.2.2.1 i tr ht]; exact Nat.le_trans (brk_len B i) hI.2.2.2.2.2.2.2.1.2
          refine pV hx hb hml hts hown hE kwX5_115 hcc hO rfl (Nat.le_of_ble_eq_true rfl) rfl hl.1 rfl (Nat.le_of_ble_eq_true rfl) (by omega) (by omega) dX5_setTerms_63 ?_
          refine lv_if_le (tgt := 73) hx hb dX5_setTerms_66 (by decide) (fun c7 => ?_) (fun c7 => ?_)
          · have c8 : ¬ 0 < tr.2.1.length := fun q9 => absurd c7 (nI_nle q9 (by omega))
            have hcd : cdSet ts t sp dc co9 = 0 := by unfold cdSet; rw [etr]; simp only; rw [hrng, if_pos rfl]; exact if_neg c8
            refine lv_iconst (v := 0) hx hb dX5_setTerms_73 (by decide) ?_
            refine pf hx hb hts hown hE hS pkX5_71 rfl hO hM.2.1.2 rfl rfl (Nat.le_of_ble_eq_true rfl) dX5_setTerms_74 (fun H1 L1 hO1 hz1 hq1 hE hS => ?_)
            have hO : OB E 6 [.int 0, .ref (ad 1), .ref (ad 2), .ref (ad 3), .ref (ad 4), .int (sc 5), .int (sc 6), .ref (ad 7), .ref (ad 8), .ref (ad 9), .ref (ad 10), .ref (ad 11), .ref (ad 12), .ref (ad 13), .ref (ad 14), .ref (ad 15), .ref (ad 16), .int (sc 17), .ref (ad 18), .ref (ad 19), .ref (ad 20), .ref (ad 21), .ref (ad 22), .ref (ad 23)] x H1 := hO1
            have hF := hF.put hz1 hq1 (fun _ => ⟨by rw [hM.2.1.1], by rw [hM.2.1.1]; exact Nat.zero_le _⟩)
            have hM := hM.put (sc' := (upd sc 0 0)) hO hq1
            have hI : MI (upd sc 0 0) ar h0 h1 fx ts B := hI
            refine lv_aload_n hx hb dX5_setTerms_77 rfl (lv_at hl 1 rfl) ?_
            refine gf hx hb hts hown hE lkX5_71 hO rfl dX5_setTerms_78 ?_
            refine lv_if_ne (tgt := 106) hx hb dX5_setTerms_81 (by decide) (fun c99 => ?_) (fun c99 => ?_)
            · exact absurd (by decide) c99
            refine lv_aload_n hx hb dX5_setTerms_84 rfl (lv_at hl 1 rfl) ?_
            refine gf hx hb hts hown hE lkX5_44 hO rfl dX5_setTerms_85 ?_
            refine lv_iload_n hx hb dX5_setTerms_88 rfl (lv_at hl 2 rfl) ?_
            refine lv_iload_n hx hb dX5_setTerms_89 rfl (lv_at hl 3 rfl) ?_
            have hA14 : IA E 10 (ar 14) (ad 14) H1 := hM.1.2 14 rfl
            refine asI hx hb hE hS hA14 (hM.2.2 14 rfl).2  et hi10 (by omega) dX5_setTerms_90 (fun H2 L2 hO2 hz2 hq2 hE hS => ?_)
            have hA14 : IA E 10 (upd (ar 14) i sp) (ad 14) H2 := hO2
            have hF := hF.put hz2 hq2 (fun _ => ⟨by rw [(hM.2.2 14 rfl).1], by rw [(hM.2.2 14 rfl).1]; decide⟩)
            have hO := pk1 hO (hq2 x (hM.ne 14 rfl))
            have hM := hM.arr (k := 14) rfl hA14 hq2
            refine lv_aload_n hx hb dX5_setTerms_91 rfl (lv_at hl 1 rfl) ?_
            refine gf hx hb hts hown hE lkX5_47 hO rfl dX5_setTerms_92 ?_
            refine lv_iload_n hx hb dX5_setTerms_95 rfl (lv_at hl 2 rfl) ?_
            refine lv_iload_n hx hb dX5_setTerms_96 rfl (lv_at hl 4 rfl) ?_
            have hA15 : IA E 10 ((upA ar 14 (upd (ar 14) i sp)) 15) (ad 15) H2 := hM.1.2 15 rfl
            refine asI hx hb hE hS hA15 (hM.2.2 15 rfl).2  et hi10 (by omega) dX5_setTerms_97 (fun H3 L3 hO3 hz3 hq3 hE hS => ?_)
            have hA15 : IA E 10 (upd ((upA ar 14 (upd (ar 14) i sp)) 15) i dc) (ad 15) H3 := hO3
            have hF := hF.put hz3 hq3 (fun _ => ⟨by rw [(hM.2.2 15 rfl).1], by rw [(hM.2.2 15 rfl).1]; decide⟩)
            have hO := pk1 hO (hq3 x (hM.ne 15 rfl))
            have hM := hM.arr (k := 15) rfl hA15 hq3
            refine lv_aload_n hx hb dX5_setTerms_98 rfl (lv_at hl 1 rfl) ?_
            refine gf hx hb hts hown hE lkX5_50 hO rfl dX5_setTerms_99 ?_
            refine lv_iload_n hx hb dX5_setTerms_102 rfl (lv_at hl 2 rfl) ?_
            refine lv_iload hx hb dX5_setTerms_103 (lv_at hl 5 rfl) ?_
            have hA16 : IA E 10 ((upA (upA ar 14 (upd (ar 14) i sp)) 15 (upd ((upA ar 14 (upd (ar 14) i sp)) 15) i dc)) 16) (ad 16) H3 := hM.1.2 16 rfl
            refine asI hx hb hE hS hA16 (hM.2.2 16 rfl).2  et hi10 (by omega) dX5_setTerms_105 (fun H4 L4 hO4 hz4 hq4 hE hS => ?_)
            have hA16 : IA E 10 (upd ((upA (upA ar 14 (upd (ar 14) i sp)) 15 (upd ((upA ar 14 (upd (ar 14) i sp)) 15) i dc)) 16) i co9) (ad 16) H4 := hO4
            have hF := hF.put hz4 hq4 (fun _ => ⟨by rw [(hM.2.2 16 rfl).1], by rw [(hM.2.2 16 rfl).1]; decide⟩)
            have hO := pk1 hO (hq4 x (hM.ne 16 rfl))
            have hM := hM.arr (k := 16) rfl hA16 hq4
            exact cU hx hb hr hlk hB hS (by omega) (by omega) (⟨rfl, Or.inr ⟨hcd, tr, i, et, ht, ⟨(upd sc 0 0), ad, (upA (upA (upA ar 14 (upd (ar 14) i sp)) 15 (upd ((upA ar 14 (upd (ar 14) i sp)) 15) i dc)) 16 (upd ((upA (upA ar 14 (upd (ar 14) i sp)) 15 (upd ((upA ar 14 (upd (ar 14) i sp)) 15) i dc)) 16) i co9)), hM, hI.set ht, rfl⟩, hF, by omega⟩⟩) dX5_setTerms_106
          · have c8 : 0 < tr.2.1.length := by
              rcases Nat.eq_zero_or_pos tr.2.1.length with q9 | q9
              · rw [q9] at c7; exact absurd (by decide) c7
              · exact q9
            have hcd : cdSet ts t sp dc co9 = 3 := by unfold cdSet; rw [etr]; simp only; rw [hrng, if_pos rfl]; exact if_pos c8
            refine lv_iconst (v := 3) hx hb dX5_setTerms_69 (by decide) ?_
            refine lv_goto (tgt := 74) hx hb dX5_setTerms_70 (by decide) ?_
            refine pf hx hb hts hown hE hS pkX5_71 rfl hO hM.2.1.2 rfl rfl (Nat.le_of_ble_eq_true rfl) dX5_setTerms_74 (fun H1 L1 hO1 hz1 hq1 hE hS => ?_)
            have hO : OB E 6 [.int 3, .ref (ad 1), .ref (ad 2), .ref (ad 3), .ref (ad 4), .int (sc 5), .int (sc 6), .ref (ad 7), .ref (ad 8), .ref (ad 9), .ref (ad 10), .ref (ad 11), .ref (ad 12), .ref (ad 13), .ref (ad 14), .ref (ad 15), .ref (ad 16), .int (sc 17), .ref (ad 18), .ref (ad 19), .ref (ad 20), .ref (ad 21), .ref (ad 22), .ref (ad 23)] x H1 := hO1
            have hF := hF.put hz1 hq1 (fun _ => ⟨by rw [hM.2.1.1], by rw [hM.2.1.1]; exact Nat.zero_le _⟩)
            have hM := hM.put (sc' := (upd sc 0 3)) hO hq1
            have hI : MI (upd sc 0 3) ar h0 h1 fx ts B := hI
            refine lv_aload_n hx hb dX5_setTerms_77 rfl (lv_at hl 1 rfl) ?_
            refine gf hx hb hts hown hE lkX5_71 hO rfl dX5_setTerms_78 ?_
            refine lv_if_ne (tgt := 106) hx hb dX5_setTerms_81 (by decide) (fun c99 => ?_) (fun c99 => ?_)
            rotate_left
            · exact absurd c99 (by decide)
            exact cU hx hb hr hlk hB hS (by omega) (by omega) (⟨rfl, Or.inl ⟨by rw [hcd]; decide, by rw [hcd]; exact ⟨⟨(upd sc 0 3), ad, ar, hM, hI, rfl⟩, hF, by omega⟩⟩⟩) dX5_setTerms_106

set_option maxRecDepth 100000 in
set_option maxHeartbeats 4000000 in
/-- handOver -/
theorem c_mhnd (E : ET) (ow : Nat → Nat × Nat) (x : Nat) (sc : Nat → Int32) (ad : Nat → Nat) (ar : Nat → Nat → Int32) (h0 h1 fx : Dy) (ts : List TR) (B : BK) (t d pa : Int32) (H : Heap) (hM : MR E ow x sc ad ar H) (hI : MI sc ar h0 h1 fx ts B) (hV : SV h0 h1 fx ts)  : Con E yX5_handOver cX5_handOver 5 (some FieldType.int) 4 0 0 [.ref x, .int t, .int d, .int pa] H (o1 (some (.int (if cdHnd ts t d pa = 0 then ((trd ts t).elim 0 (fun tr => hldS tr.1 tr.2.2 d)) else 0))) (fun H' => (¬ cdHnd ts t d pa = 0 ∧ MO E ow x h0 h1 fx ts B (cdHnd ts t d pa) H H') ∨ (cdHnd ts t d pa = 0 ∧ ∃ tr i, t = nI i ∧ ts[i]? = some tr ∧ MO E ow x h0 h1 fx (ts.set i (tr.1, tr.2.1, tr.2.2 ++ [(d, pa)])) B 0 H H'))) := by
  refine Con.of (C := RX5) rfl (by decide +kernel) (Nat.le_of_ble_eq_true rfl) ?_
  intro p e s m below meth co ls hx hb hr hlk hml hown hts hin hE hH hS hl
  have hl : lv_has ls 5 [(0, .ref x), (1, .int t), (2, .int d), (3, .int pa)] := hl
  have hB : eB E ≤ s.heap.size := by rw [hH]; exact hE.2.1
  have hO := hM.1.1
  have htn := hV.tn
  have hn6 := hI.2.2.2.2.1
  have hF : FR (fun z => (ow z).1 = 4 ∧ (ow z).2 ≤ 23) H H := FR.rf
  refine lv_aload_n hx hb dX5_handOver_0 rfl (lv_at hl 0 rfl) ?_
  refine lv_aload_n hx hb dX5_handOver_1 rfl (lv_at hl 0 rfl) ?_
  refine lv_iload_n hx hb dX5_handOver_2 rfl (lv_at hl 1 rfl) ?_
  refine pV hx hb hml hts hown hE kwX5_82 (c_isTrade E x sc ad ar t H hM.1) hO rfl (Nat.le_of_ble_eq_true rfl) rfl hl.1 rfl (Nat.le_of_ble_eq_true rfl) (by omega) (by omega) dX5_handOver_3 ?_
  rw [show inB t 0 (sc 6 - 1) = inB t 0 (nI ts.length - 1) by rw [← hn6]]
  cases c1 : inB t 0 (nI ts.length - 1) with
  | false =>
    have etr : trd ts t = none := trd_no (fun ⟨i, hi, e⟩ => by rw [(inB_pred (h := by omega)).mpr ⟨i, hi, e⟩] at c1; cases c1)
    refine lv_if_eq (tgt := 16) hx hb dX5_handOver_6 (by decide) (fun c2 => ?_) (fun c2 => ?_)
    rotate_left
    · exact absurd (by decide) c2
    have hcd : cdHnd ts t d pa = 1 := by unfold cdHnd; rw [etr]
    refine lv_iconst (v := 1) hx hb dX5_handOver_16 (by decide) ?_
    refine lv_goto (tgt := 47) hx hb dX5_handOver_17 (by decide) ?_
    refine pf hx hb hts hown hE hS pkX5_71 rfl hO hM.2.1.2 rfl rfl (Nat.le_of_ble_eq_true rfl) dX5_handOver_47 (fun H1 L1 hO1 hz1 hq1 hE hS => ?_)
    have hO : OB E 6 [.int 1, .ref (ad 1), .ref (ad 2), .ref (ad 3), .ref (ad 4), .int (sc 5), .int (sc 6), .ref (ad 7), .ref (ad 8), .ref (ad 9), .ref (ad 10), .ref (ad 11), .ref (ad 12), .ref (ad 13), .ref (ad 14), .ref (ad 15), .ref (ad 16), .int (sc 17), .ref (ad 18), .ref (ad 19), .ref (ad 20), .ref (ad 21), .ref (ad 22), .ref (ad 23)] x H1 := hO1
    have hF := hF.put hz1 hq1 (fun _ => ⟨by rw [hM.2.1.1], by rw [hM.2.1.1]; exact Nat.zero_le _⟩)
    have hM := hM.put (sc' := (upd sc 0 1)) hO hq1
    have hI : MI (upd sc 0 1) ar h0 h1 fx ts B := hI
    refine lv_aload_n hx hb dX5_handOver_50 rfl (lv_at hl 0 rfl) ?_
    refine gf hx hb hts hown hE lkX5_71 hO rfl dX5_handOver_51 ?_
    refine lv_if_le (tgt := 59) hx hb dX5_handOver_54 (by decide) (fun c99 => ?_) (fun c99 => ?_)
    · exact absurd c99 (by decide)
    refine lv_iconst (v := 0) hx hb dX5_handOver_57 (by decide) ?_
    exact cI hx hb hr hlk hB hS (by omega) (by omega) (⟨by rw [hcd]; rfl, Or.inl ⟨by rw [hcd]; decide, by rw [hcd]; exact ⟨⟨(upd sc 0 1), ad, ar, hM, hI, rfl⟩, hF, by omega⟩⟩⟩) dX5_handOver_58
  | true =>
    obtain ⟨i, hi, et⟩ := (inB_pred (n := ts.length) (h := by omega)).mp c1
    obtain ⟨tr, ht⟩ := getq hi
    have etr : trd ts t = some tr := by rw [et, trd_nI (by omega)]; exact ht
    have hi10 : i < 10 := by omega
    refine lv_if_eq (tgt := 16) hx hb dX5_handOver_6 (by decide) (fun c2 => ?_) (fun c2 => ?_)
    · exact absurd c2 (by decide)
    refine lv_iload_n hx hb dX5_handOver_9 rfl (lv_at hl 3 rfl) ?_
    refine pS hx hb hml hts hown hE kwX5_105 (c_isParty E pa H) (Nat.le_of_ble_eq_true rfl) rfl hl.1 rfl (Nat.le_of_ble_eq_true rfl) (by omega) (by omega) dX5_handOver_10 ?_
    cases c3 : inB pa 0 3 with
    | false =>
      refine lv_if_ne (tgt := 20) hx hb dX5_handOver_13 (by decide) (fun c4 => ?_) (fun c4 => ?_)
      · exact absurd (by decide) c4
      have hcd : cdHnd ts t d pa = 1 := by unfold cdHnd; rw [etr]; simp only; rw [c3]; rfl
      refine lv_iconst (v := 1) hx hb dX5_handOver_16 (by decide) ?_
      refine lv_goto (tgt := 47) hx hb dX5_handOver_17 (by decide) ?_
      refine pf hx hb hts hown hE hS pkX5_71 rfl hO hM.2.1.2 rfl rfl (Nat.le_of_ble_eq_true rfl) dX5_handOver_47 (fun H1 L1 hO1 hz1 hq1 hE hS => ?_)
      have hO : OB E 6 [.int 1, .ref (ad 1), .ref (ad 2), .ref (ad 3), .ref (ad 4), .int (sc 5), .int (sc 6), .ref (ad 7), .ref (ad 8), .ref (ad 9), .ref (ad 10), .ref (ad 11), .ref (ad 12), .ref (ad 13), .ref (ad 14), .ref (ad 15), .ref (ad 16), .int (sc 17), .ref (ad 18), .ref (ad 19), .ref (ad 20), .ref (ad 21), .ref (ad 22), .ref (ad 23)] x H1 := hO1
      have hF := hF.put hz1 hq1 (fun _ => ⟨by rw [hM.2.1.1], by rw [hM.2.1.1]; exact Nat.zero_le _⟩)
      have hM := hM.put (sc' := (upd sc 0 1)) hO hq1
      have hI : MI (upd sc 0 1) ar h0 h1 fx ts B := hI
      refine lv_aload_n hx hb dX5_handOver_50 rfl (lv_at hl 0 rfl) ?_
      refine gf hx hb hts hown hE lkX5_71 hO rfl dX5_handOver_51 ?_
      refine lv_if_le (tgt := 59) hx hb dX5_handOver_54 (by decide) (fun c99 => ?_) (fun c99 => ?_)
      · exact absurd c99 (by decide)
      refine lv_iconst (v := 0) hx hb dX5_handOver_57 (by decide) ?_
      exact cI hx hb hr hlk hB hS (by omega) (by omega) (⟨by rw [hcd]; rfl, Or.inl ⟨by rw [hcd]; decide, by rw [hcd]; exact ⟨⟨(upd sc 0 1), ad, ar, hM, hI, rfl⟩, hF, by omega⟩⟩⟩) dX5_handOver_58
    | true =>
      refine lv_if_ne (tgt := 20) hx hb dX5_handOver_13 (by decide) (fun c4 => ?_) (fun c4 => ?_)
      rotate_left
      · exact absurd c4 (by decide)
      refine lv_iload_n hx hb dX5_handOver_20 rfl (lv_at hl 2 rfl) ?_
      refine pS hx hb hml hts hown hE kwX5_89 (c_isDay E d H) (Nat.le_of_ble_eq_true rfl) rfl hl.1 rfl (Nat.le_of_ble_eq_true rfl) (by omega) (by omega) dX5_handOver_21 ?_
      cases c5 : inB d 0 3000 with
      | false =>
        refine lv_if_ne (tgt := 31) hx hb dX5_handOver_24 (by decide) (fun c6 => ?_) (fun c6 => ?_)
        · exact absurd (by decide) c6
        have hcd : cdHnd ts t d pa = 2 := by unfold cdHnd; rw [etr]; simp only; rw [c3, c5]; rfl
        refine lv_iconst (v := 2) hx hb dX5_handOver_27 (by decide) ?_
        refine lv_goto (tgt := 47) hx hb dX5_handOver_28 (by decide) ?_
        refine pf hx hb hts hown hE hS pkX5_71 rfl hO hM.2.1.2 rfl rfl (Nat.le_of_ble_eq_true rfl) dX5_handOver_47 (fun H1 L1 hO1 hz1 hq1 hE hS => ?_)
        have hO : OB E 6 [.int 2, .ref (ad 1), .ref (ad 2), .ref (ad 3), .ref (ad 4), .int (sc 5), .int (sc 6), .ref (ad 7), .ref (ad 8), .ref (ad 9), .ref (ad 10), .ref (ad 11), .ref (ad 12), .ref (ad 13), .ref (ad 14), .ref (ad 15), .ref (ad 16), .int (sc 17), .ref (ad 18), .ref (ad 19), .ref (ad 20), .ref (ad 21), .ref (ad 22), .ref (ad 23)] x H1 := hO1
        have hF := hF.put hz1 hq1 (fun _ => ⟨by rw [hM.2.1.1], by rw [hM.2.1.1]; exact Nat.zero_le _⟩)
        have hM := hM.put (sc' := (upd sc 0 2)) hO hq1
        have hI : MI (upd sc 0 2) ar h0 h1 fx ts B := hI
        refine lv_aload_n hx hb dX5_handOver_50 rfl (lv_at hl 0 rfl) ?_
        refine gf hx hb hts hown hE lkX5_71 hO rfl dX5_handOver_51 ?_
        refine lv_if_le (tgt := 59) hx hb dX5_handOver_54 (by decide) (fun c99 => ?_) (fun c99 => ?_)
        · exact absurd c99 (by decide)
        refine lv_iconst (v := 0) hx hb dX5_handOver_57 (by decide) ?_
        exact cI hx hb hr hlk hB hS (by omega) (by omega) (⟨by rw [hcd]; rfl, Or.inl ⟨by rw [hcd]; decide, by rw [hcd]; exact ⟨⟨(upd sc 0 2), ad, ar, hM, hI, rfl⟩, hF, by omega⟩⟩⟩) dX5_handOver_58
      | true =>
        refine lv_if_ne (tgt := 31) hx hb dX5_handOver_24 (by decide) (fun c6 => ?_) (fun c6 => ?_)
        rotate_left
        · exact absurd c6 (by decide)
        refine lv_aload_n hx hb dX5_handOver_31 rfl (lv_at hl 0 rfl) ?_
        refine gf hx hb hts hown hE lkX5_62 hO rfl dX5_handOver_32 ?_
        refine lv_iload_n hx hb dX5_handOver_35 rfl (lv_at hl 1 rfl) ?_
        have hhl : tr.2.2.length ≤ 10 := by obtain ⟨pa, lo, f, le, n, -, -, -, -, -, -, -, -, -, -, -, -, -, -, -, -, -, hh⟩ := hV.tv ht; exact hh
        have hA21 : IA E 10 (ar 21) (ad 21) H := hM.1.2 21 rfl
        refine aI hx hb hE hA21 et hi10 (by omega) ((hI.2.2.2.2.2.2.2.2.2.2.2 i tr ht).1) dX5_handOver_36 ?_
        refine lv_bipush (v := 10) hx hb dX5_handOver_37 (by decide) ?_
        refine lv_icmp_ne (tgt := 46) hx hb dX5_handOver_39 (by decide) (fun c7 => ?_) (fun c7 => ?_)
        · have c8 : tr.2.2.length < 10 := by
            rcases Nat.lt_or_ge tr.2.2.length 10 with q9 | q9
            · exact q9
            · exact absurd (show nI tr.2.2.length = 10 by rw [show tr.2.2.length = 10 by omega]; rfl) c7
          have hcd : cdHnd ts t d pa = 0 := by unfold cdHnd; rw [etr]; simp only; rw [c3, c5]; simp only [if_true]; exact if_neg (Nat.not_le.mpr c8)
          refine lv_iconst (v := 0) hx hb dX5_handOver_46 (by decide) ?_
          refine pf hx hb hts hown hE hS pkX5_71 rfl hO hM.2.1.2 rfl rfl (Nat.le_of_ble_eq_true rfl) dX5_handOver_47 (fun H1 L1 hO1 hz1 hq1 hE hS => ?_)
          have hO : OB E 6 [.int 0, .ref (ad 1), .ref (ad 2), .ref (ad 3), .ref (ad 4), .int (sc 5), .int (sc 6), .ref (ad 7), .ref (ad 8), .ref (ad 9), .ref (ad 10), .ref (ad 11), .ref (ad 12), .ref (ad 13), .ref (ad 14), .ref (ad 15), .ref (ad 16), .int (sc 17), .ref (ad 18), .ref (ad 19), .ref (ad 20), .ref (ad 21), .ref (ad 22), .ref (ad 23)] x H1 := hO1
          have hF := hF.put hz1 hq1 (fun _ => ⟨by rw [hM.2.1.1], by rw [hM.2.1.1]; exact Nat.zero_le _⟩)
          have hM := hM.put (sc' := (upd sc 0 0)) hO hq1
          have hI : MI (upd sc 0 0) ar h0 h1 fx ts B := hI
          refine lv_aload_n hx hb dX5_handOver_50 rfl (lv_at hl 0 rfl) ?_
          refine gf hx hb hts hown hE lkX5_71 hO rfl dX5_handOver_51 ?_
          refine lv_if_le (tgt := 59) hx hb dX5_handOver_54 (by decide) (fun c99 => ?_) (fun c99 => ?_)
          rotate_left
          · exact absurd (by decide) c99
          have h21 := (hI.2.2.2.2.2.2.2.2.2.2.2 i tr ht).1
          refine lv_aload_n hx hb dX5_handOver_59 rfl (lv_at hl 0 rfl) ?_
          refine lv_iload_n hx hb dX5_handOver_60 rfl (lv_at hl 1 rfl) ?_
          refine lv_iload_n hx hb dX5_handOver_61 rfl (lv_at hl 2 rfl) ?_
          have hcc := c_mparty E x (upd sc 0 0) ad ar h0 h1 fx ts B i tr d H1 hM.1 hI hV ht
          rw [← et] at hcc
          refine pV hx hb hml hts hown hE kwX5_125 hcc hO rfl (Nat.le_of_ble_eq_true rfl) rfl hl.1 rfl (Nat.le_of_ble_eq_true rfl) (by omega) (by omega) dX5_handOver_62 ?_
          refine lv_istore (lv' := [(4, .int (hldS tr.1 tr.2.2 d)), (0, .ref x), (1, .int t), (2, .int d), (3, .int pa)]) hx hb dX5_handOver_65 hl (by decide) rfl (fun ls hl => ?_)
          refine lv_aload_n hx hb dX5_handOver_67 rfl (lv_at hl 1 rfl) ?_
          refine gf hx hb hts hown hE lkX5_65 hO rfl dX5_handOver_68 ?_
          refine lv_bipush (v := 10) hx hb dX5_handOver_71 (by decide) ?_
          refine lv_iload_n hx hb dX5_handOver_73 rfl (lv_at hl 2 rfl) ?_
          refine lv_imul hx hb dX5_handOver_74 ?_
          refine lv_aload_n hx hb dX5_handOver_75 rfl (lv_at hl 1 rfl) ?_
          refine gf hx hb hts hown hE lkX5_62 hO rfl dX5_handOver_76 ?_
          refine lv_iload_n hx hb dX5_handOver_79 rfl (lv_at hl 2 rfl) ?_
          have hA21 : IA E 10 (ar 21) (ad 21) H1 := hM.1.2 21 rfl
          refine aI hx hb hE hA21 et hi10 (by omega) h21 dX5_handOver_80 ?_
          refine lv_iadd hx hb dX5_handOver_81 ?_
          refine lv_iload_n hx hb dX5_handOver_82 rfl (lv_at hl 3 rfl) ?_
          have hA22 : IA E 100 (ar 22) (ad 22) H1 := hM.1.2 22 rfl
          refine asI hx hb hE hS hA22 (hM.2.2 22 rfl).2  (by rw [et]; exact h10) (by omega) (by omega) dX5_handOver_83 (fun H2 L2 hO2 hz2 hq2 hE hS => ?_)
          have hA22 : IA E 100 (upd (ar 22) (10 * i + tr.2.2.length) d) (ad 22) H2 := hO2
          have hF := hF.put hz2 hq2 (fun _ => ⟨by rw [(hM.2.2 22 rfl).1], by rw [(hM.2.2 22 rfl).1]; decide⟩)
          have hO := pk1 hO (hq2 x (hM.ne 22 rfl))
          have hM := hM.arr (k := 22) rfl hA22 hq2
          refine lv_aload_n hx hb dX5_handOver_84 rfl (lv_at hl 1 rfl) ?_
          refine gf hx hb hts hown hE lkX5_68 hO rfl dX5_handOver_85 ?_
          refine lv_bipush (v := 10) hx hb dX5_handOver_88 (by decide) ?_
          refine lv_iload_n hx hb dX5_handOver_90 rfl (lv_at hl 2 rfl) ?_
          refine lv_imul hx hb dX5_handOver_91 ?_
          refine lv_aload_n hx hb dX5_handOver_92 rfl (lv_at hl 1 rfl) ?_
          refine gf hx hb hts hown hE lkX5_62 hO rfl dX5_handOver_93 ?_
          refine lv_iload_n hx hb dX5_handOver_96 rfl (lv_at hl 2 rfl) ?_
          have hA21 : IA E 10 ((upA ar 22 (upd (ar 22) (10 * i + tr.2.2.length) d)) 21) (ad 21) H2 := hM.1.2 21 rfl
          refine aI hx hb hE hA21 et hi10 (by omega) h21 dX5_handOver_97 ?_
          refine lv_iadd hx hb dX5_handOver_98 ?_
          refine lv_iload_n hx hb dX5_handOver_99 rfl (lv_at hl 4 rfl) ?_
          have hA23 : IA E 100 ((upA ar 22 (upd (ar 22) (10 * i + tr.2.2.length) d)) 23) (ad 23) H2 := hM.1.2 23 rfl
          refine asI hx hb hE hS hA23 (hM.2.2 23 rfl).2  (by rw [et]; exact h10) (by omega) (by omega) dX5_handOver_100 (fun H3 L3 hO3 hz3 hq3 hE hS => ?_)
          have hA23 : IA E 100 (upd ((upA ar 22 (upd (ar 22) (10 * i + tr.2.2.length) d)) 23) (10 * i + tr.2.2.length) pa) (ad 23) H3 := hO3
          have hF := hF.put hz3 hq3 (fun _ => ⟨by rw [(hM.2.2 23 rfl).1], by rw [(hM.2.2 23 rfl).1]; decide⟩)
          have hO := pk1 hO (hq3 x (hM.ne 23 rfl))
          have hM := hM.arr (k := 23) rfl hA23 hq3
          refine lv_aload_n hx hb dX5_handOver_101 rfl (lv_at hl 1 rfl) ?_
          refine gf hx hb hts hown hE lkX5_62 hO rfl dX5_handOver_102 ?_
          refine lv_iload_n hx hb dX5_handOver_105 rfl (lv_at hl 2 rfl) ?_
          refine lv_dup2_11 hx hb dX5_handOver_106 rfl rfl ?_
          have hA21 : IA E 10 ((upA (upA ar 22 (upd (ar 22) (10 * i + tr.2.2.length) d)) 23 (upd ((upA ar 22 (upd (ar 22) (10 * i + tr.2.2.length) d)) 23) (10 * i + tr.2.2.length) pa)) 21) (ad 21) H3 := hM.1.2 21 rfl
          refine aI hx hb hE hA21 et hi10 (by omega) h21 dX5_handOver_107 ?_
          refine lv_iconst (v := 1) hx hb dX5_handOver_108 (by decide) ?_
          refine lv_iadd hx hb dX5_handOver_109 ?_
          rw [show nI tr.2.2.length + 1 = nI (tr.2.2.length + 1) from nI_1 _]
          have hA21 : IA E 10 ((upA (upA ar 22 (upd (ar 22) (10 * i + tr.2.2.length) d)) 23 (upd ((upA ar 22 (upd (ar 22) (10 * i + tr.2.2.length) d)) 23) (10 * i + tr.2.2.length) pa)) 21) (ad 21) H3 := hM.1.2 21 rfl
          refine asI hx hb hE hS hA21 (hM.2.2 21 rfl).2  et hi10 (by omega) dX5_handOver_110 (fun H4 L4 hO4 hz4 hq4 hE hS => ?_)
          have hA21 : IA E 10 (upd ((upA (upA ar 22 (upd (ar 22) (10 * i + tr.2.2.length) d)) 23 (upd ((upA ar 22 (upd (ar 22) (10 * i + tr.2.2.length) d)) 23) (10 * i + tr.2.2.length) pa)) 21) i (nI (tr.2.2.length + 1))) (ad 21) H4 := hO4
          have hF := hF.put hz4 hq4 (fun _ => ⟨by rw [(hM.2.2 21 rfl).1], by rw [(hM.2.2 21 rfl).1]; decide⟩)
          have hO := pk1 hO (hq4 x (hM.ne 21 rfl))
          have hM := hM.arr (k := 21) rfl hA21 hq4
          refine lv_iload hx hb dX5_handOver_111 (lv_at hl 0 rfl) ?_
          exact cI hx hb hr hlk hB hS (by omega) (by omega) (⟨by rw [hcd, etr]; rfl, Or.inr ⟨hcd, tr, i, et, ht, ⟨(upd sc 0 0), ad, (upA (upA (upA ar 22 (upd (ar 22) (10 * i + tr.2.2.length) d)) 23 (upd ((upA ar 22 (upd (ar 22) (10 * i + tr.2.2.length) d)) 23) (10 * i + tr.2.2.length) pa)) 21 (upd ((upA (upA ar 22 (upd (ar 22) (10 * i + tr.2.2.length) d)) 23 (upd ((upA ar 22 (upd (ar 22) (10 * i + tr.2.2.length) d)) 23) (10 * i + tr.2.2.length) pa)) 21) i (nI (tr.2.2.length + 1)))), hM, hI.hnd hV ht c8, rfl⟩, hF, by omega⟩⟩) dX5_handOver_113
        · have c8 : 10 ≤ tr.2.2.length := by
            rcases Nat.lt_or_ge tr.2.2.length 10 with q9 | q9
            · have := (nI_eq (a := tr.2.2.length) (b := 10) (by omega) (by decide)).mp c7; omega
            · exact q9
          have hcd : cdHnd ts t d pa = 3 := by unfold cdHnd; rw [etr]; simp only; rw [c3, c5]; simp only [if_true]; exact if_pos c8
          refine lv_iconst (v := 3) hx hb dX5_handOver_42 (by decide) ?_
          refine lv_goto (tgt := 47) hx hb dX5_handOver_43 (by decide) ?_
          refine pf hx hb hts hown hE hS pkX5_71 rfl hO hM.2.1.2 rfl rfl (Nat.le_of_ble_eq_true rfl) dX5_handOver_47 (fun H1 L1 hO1 hz1 hq1 hE hS => ?_)
          have hO : OB E 6 [.int 3, .ref (ad 1), .ref (ad 2), .ref (ad 3), .ref (ad 4), .int (sc 5), .int (sc 6), .ref (ad 7), .ref (ad 8), .ref (ad 9), .ref (ad 10), .ref (ad 11), .ref (ad 12), .ref (ad 13), .ref (ad 14), .ref (ad 15), .ref (ad 16), .int (sc 17), .ref (ad 18), .ref (ad 19), .ref (ad 20), .ref (ad 21), .ref (ad 22), .ref (ad 23)] x H1 := hO1
          have hF := hF.put hz1 hq1 (fun _ => ⟨by rw [hM.2.1.1], by rw [hM.2.1.1]; exact Nat.zero_le _⟩)
          have hM := hM.put (sc' := (upd sc 0 3)) hO hq1
          have hI : MI (upd sc 0 3) ar h0 h1 fx ts B := hI
          refine lv_aload_n hx hb dX5_handOver_50 rfl (lv_at hl 0 rfl) ?_
          refine gf hx hb hts hown hE lkX5_71 hO rfl dX5_handOver_51 ?_
          refine lv_if_le (tgt := 59) hx hb dX5_handOver_54 (by decide) (fun c99 => ?_) (fun c99 => ?_)
          · exact absurd c99 (by decide)
          refine lv_iconst (v := 0) hx hb dX5_handOver_57 (by decide) ?_
          exact cI hx hb hr hlk hB hS (by omega) (by omega) (⟨by rw [hcd]; rfl, Or.inl ⟨by rw [hcd]; decide, by rw [hcd]; exact ⟨⟨(upd sc 0 3), ad, ar, hM, hI, rfl⟩, hF, by omega⟩⟩⟩) dX5_handOver_58
