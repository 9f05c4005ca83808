set_option maxRecDepth 100000 in
set_option maxHeartbeats 4000000 in
/-- fix -/
theorem c_mfix (E : ET) (ow : Nat → Nat × Nat) (x : Nat) (sc : Nat → Int32) (ad : Nat → Nat) (ar : Nat → Nat → Int32) (h0 h1 fx : Dy) (ts : List TR) (B : BK) (d r : Int32) (H : Heap) (hM : MR E ow x sc ad ar H) (hI : MI sc ar h0 h1 fx ts B) (hV : SV h0 h1 fx ts)  : Con E yX5_fix cX5_fix 3 (some FieldType.int) 4 0 0 [.ref x, .int d, .int r] H (o1 (some (.int (if cdFix fx d r = 0 then (nI (dPut fx d r).length) else 0))) (fun H' => (¬ cdFix fx d r = 0 ∧ MO E ow x h0 h1 fx ts B (cdFix fx d r) H H') ∨ (cdFix fx d r = 0 ∧ MO E ow x h0 h1 (dPut fx d r) ts B 0 H H'))) := by
  refine Con.of (C := RX5) rfl (by decide +kernel) (Nat.le_of_ble_eq_true rfl) ?_
  intro p e s m below meth co ls hx hb hr hlk hml hown hts hin hE hH hS hl
  have hl : lv_has ls 3 [(0, .ref x), (1, .int d), (2, .int r)] := hl
  have hB : eB E ≤ s.heap.size := by rw [hH]; exact hE.2.1
  have hO := hM.1.1
  have htn := hV.tn
  have hn6 := hI.2.2.2.2.1
  have hF : FR (fun z => (ow z).1 = 4 ∧ (ow z).2 ≤ 23) H H := FR.rf
  have hfl := hV.2.2.2.2.2.1
  have h5 := hI.2.2.2.1
  refine lv_aload_n hx hb dX5_fix_0 rfl (lv_at hl 0 rfl) ?_
  refine lv_iload_n hx hb dX5_fix_1 rfl (lv_at hl 1 rfl) ?_
  refine pS hx hb hml hts hown hE kwX5_89 (c_isDay E d H) (Nat.le_of_ble_eq_true rfl) rfl hl.1 rfl (Nat.le_of_ble_eq_true rfl) (by omega) (by omega) dX5_fix_2 ?_
  cases c3 : inB d 0 3000 with
  | false =>
    refine lv_if_eq (tgt := 21) hx hb dX5_fix_5 (by decide) (fun c4 => ?_) (fun c4 => ?_)
    rotate_left
    · exact absurd (by decide) c4
    have hcd : cdFix fx d r = 1 := by unfold cdFix; rw [c3]; rfl
    refine lv_iconst (v := 1) hx hb dX5_fix_21 (by decide) ?_
    refine lv_goto (tgt := 48) hx hb dX5_fix_22 (by decide) ?_
    refine pf hx hb hts hown hE hS pkX5_71 rfl hO hM.2.1.2 rfl rfl (Nat.le_of_ble_eq_true rfl) dX5_fix_48 (fun H1 L1 hO1 hz1 hq1 hE hS => ?_)
    have hO : OB E 6 [.int 1, .ref (ad 1), .ref (ad 2), .ref (ad 3), .ref (ad 4), .int (sc 5), .int (sc 6), .ref (ad 7), .ref (ad 8), .ref (ad 9), .ref (ad 10), .ref (ad 11), .ref (ad 12), .ref (ad 13), .ref (ad 14), .ref (ad 15), .ref (ad 16), .int (sc 17), .ref (ad 18), .ref (ad 19), .ref (ad 20), .ref (ad 21), .ref (ad 22), .ref (ad 23)] x H1 := hO1
    have hF := hF.put hz1 hq1 (fun _ => ⟨by rw [hM.2.1.1], by rw [hM.2.1.1]; exact Nat.zero_le _⟩)
    have hM := hM.put (sc' := (upd sc 0 1)) hO hq1
    have hI : MI (upd sc 0 1) ar h0 h1 fx ts B := hI
    refine lv_aload_n hx hb dX5_fix_51 rfl (lv_at hl 0 rfl) ?_
    refine gf hx hb hts hown hE lkX5_71 hO rfl dX5_fix_52 ?_
    refine lv_if_le (tgt := 60) hx hb dX5_fix_55 (by decide) (fun c99 => ?_) (fun c99 => ?_)
    · exact absurd c99 (by decide)
    refine lv_iconst (v := 0) hx hb dX5_fix_58 (by decide) ?_
    exact cI hx hb hr hlk hB hS (by omega) (by omega) (⟨by rw [hcd]; rfl, Or.inl ⟨by rw [hcd]; decide, by rw [hcd]; exact ⟨⟨(upd sc 0 1), ad, ar, hM, hI, rfl⟩, hF, by omega⟩⟩⟩) dX5_fix_59
  | true =>
    refine lv_if_eq (tgt := 21) hx hb dX5_fix_5 (by decide) (fun c4 => ?_) (fun c4 => ?_)
    · exact absurd c4 (by decide)
    refine lv_iload_n hx hb dX5_fix_8 rfl (lv_at hl 2 rfl) ?_
    refine lv_sipush (v := (-500)) hx hb dX5_fix_9 (by decide) ?_
    refine lv_sipush (v := 2000) hx hb dX5_fix_12 (by decide) ?_
    refine pS hx hb hml hts hown hE kwX5_75 (c_in E r (-500) 2000 H) (Nat.le_of_ble_eq_true rfl) rfl hl.1 rfl (Nat.le_of_ble_eq_true rfl) (by omega) (by omega) dX5_fix_15 ?_
    cases c5 : inB r (-500) 2000 with
    | false =>
      refine lv_if_ne (tgt := 25) hx hb dX5_fix_18 (by decide) (fun c6 => ?_) (fun c6 => ?_)
      · exact absurd (by decide) c6
      have hcd : cdFix fx d r = 1 := by unfold cdFix; rw [c3, c5]; rfl
      refine lv_iconst (v := 1) hx hb dX5_fix_21 (by decide) ?_
      refine lv_goto (tgt := 48) hx hb dX5_fix_22 (by decide) ?_
      refine pf hx hb hts hown hE hS pkX5_71 rfl hO hM.2.1.2 rfl rfl (Nat.le_of_ble_eq_true rfl) dX5_fix_48 (fun H1 L1 hO1 hz1 hq1 hE hS => ?_)
      have hO : OB E 6 [.int 1, .ref (ad 1), .ref (ad 2), .ref (ad 3), .ref (ad 4), .int (sc 5), .int (sc 6), .ref (ad 7), .ref (ad 8), .ref (ad 9), .ref (ad 10), .ref (ad 11), .ref (ad 12), .ref (ad 13), .ref (ad 14), .ref (ad 15), .ref (ad 16), .int (sc 17), .ref (ad 18), .ref (ad 19), .ref (ad 20), .ref (ad 21), .ref (ad 22), .ref (ad 23)] x H1 := hO1
      have hF := hF.put hz1 hq1 (fun _ => ⟨by rw [hM.2.1.1], by rw [hM.2.1.1]; exact Nat.zero_le _⟩)
      have hM := hM.put (sc' := (upd sc 0 1)) hO hq1
      have hI : MI (upd sc 0 1) ar h0 h1 fx ts B := hI
      refine lv_aload_n hx hb dX5_fix_51 rfl (lv_at hl 0 rfl) ?_
      refine gf hx hb hts hown hE lkX5_71 hO rfl dX5_fix_52 ?_
      refine lv_if_le (tgt := 60) hx hb dX5_fix_55 (by decide) (fun c99 => ?_) (fun c99 => ?_)
      · exact absurd c99 (by decide)
      refine lv_iconst (v := 0) hx hb dX5_fix_58 (by decide) ?_
      exact cI hx hb hr hlk hB hS (by omega) (by omega) (⟨by rw [hcd]; rfl, Or.inl ⟨by rw [hcd]; decide, by rw [hcd]; exact ⟨⟨(upd sc 0 1), ad, ar, hM, hI, rfl⟩, hF, by omega⟩⟩⟩) dX5_fix_59
    | true =>
      refine lv_if_ne (tgt := 25) hx hb dX5_fix_18 (by decide) (fun c6 => ?_) (fun c6 => ?_)
      rotate_left
      · exact absurd c6 (by decide)
      obtain ⟨j, hj, ej⟩ := inB_nI (n := 3000) c3
      have hfr := hI.2.2.1 j hj
      refine lv_aload_n hx hb dX5_fix_25 rfl (lv_at hl 0 rfl) ?_
      refine gf hx hb hts hown hE lkX5_17 hO rfl dX5_fix_26 ?_
      refine lv_iload_n hx hb dX5_fix_29 rfl (lv_at hl 1 rfl) ?_
      have hA3 : ZA E 3001 (ar 3) (ad 3) H := hM.1.2 3 rfl
      refine aZ hx hb hE hA3 ej (by omega) (by omega) hfr.1 dX5_fix_30 ?_
      rw [← ej]
      rw [← ej] at hfr
      cases c7 : dHas fx d with
      | true =>
        refine lv_if_ne (tgt := 47) hx hb dX5_fix_31 (by decide) (fun c8 => ?_) (fun c8 => ?_)
        rotate_left
        · exact absurd c8 (by decide)
        have hcd : cdFix fx d r = 0 := by unfold cdFix; rw [c3, c5, c7]; simp
        refine lv_iconst (v := 0) hx hb dX5_fix_47 (by decide) ?_
        refine pf hx hb hts hown hE hS pkX5_71 rfl hO hM.2.1.2 rfl rfl (Nat.le_of_ble_eq_true rfl) dX5_fix_48 (fun H1 L1 hO1 hz1 hq1 hE hS => ?_)
        have hO : OB E 6 [.int 0, .ref (ad 1), .ref (ad 2), .ref (ad 3), .ref (ad 4), .int (sc 5), .int (sc 6), .ref (ad 7), .ref (ad 8), .ref (ad 9), .ref (ad 10), .ref (ad 11), .ref (ad 12), .ref (ad 13), .ref (ad 14), .ref (ad 15), .ref (ad 16), .int (sc 17), .ref (ad 18), .ref (ad 19), .ref (ad 20), .ref (ad 21), .ref (ad 22), .ref (ad 23)] x H1 := hO1
        have hF := hF.put hz1 hq1 (fun _ => ⟨by rw [hM.2.1.1], by rw [hM.2.1.1]; exact Nat.zero_le _⟩)
        have hM := hM.put (sc' := (upd sc 0 0)) hO hq1
        have hI : MI (upd sc 0 0) ar h0 h1 fx ts B := hI
        refine lv_aload_n hx hb dX5_fix_51 rfl (lv_at hl 0 rfl) ?_
        refine gf hx hb hts hown hE lkX5_71 hO rfl dX5_fix_52 ?_
        refine lv_if_le (tgt := 60) hx hb dX5_fix_55 (by decide) (fun c99 => ?_) (fun c99 => ?_)
        rotate_left
        · exact absurd (by decide) c99
        refine lv_aload_n hx hb dX5_fix_60 rfl (lv_at hl 0 rfl) ?_
        refine lv_dup hx hb dX5_fix_61 rfl ?_
        refine gf hx hb hts hown hE lkX5_99 hO rfl dX5_fix_62 ?_
        refine lv_aload_n hx hb dX5_fix_65 rfl (lv_at hl 0 rfl) ?_
        refine gf hx hb hts hown hE lkX5_17 hO rfl dX5_fix_66 ?_
        refine lv_iload_n hx hb dX5_fix_69 rfl (lv_at hl 1 rfl) ?_
        have hA3 : ZA E 3001 (ar 3) (ad 3) H1 := hM.1.2 3 rfl
        refine aZ hx hb hE hA3 ej (by omega) (by omega) hfr.1 dX5_fix_70 ?_
        rw [show (if dHas fx d then (1 : Int32) else 0) = 1 by rw [c7]; rfl]
        refine lv_if_eq (tgt := 78) hx hb dX5_fix_71 (by decide) (fun c98 => ?_) (fun c98 => ?_)
        · exact absurd c98 (by decide)
        refine lv_iconst (v := 0) hx hb dX5_fix_74 (by decide) ?_
        refine lv_goto (tgt := 79) hx hb dX5_fix_75 (by decide) ?_
        refine lv_iadd hx hb dX5_fix_79 ?_
        have hlen : sc 5 + 0 = nI (dPut fx d r).length := by rw [h5, dPut_len, c7]; exact Int32.add_zero _
        rw [hlen]
        refine pf hx hb hts hown hE hS pkX5_99 rfl hO hM.2.1.2 rfl rfl (Nat.le_of_ble_eq_true rfl) dX5_fix_80 (fun H2 L2 hO2 hz2 hq2 hE hS => ?_)
        have hO : OB E 6 [.int 0, .ref (ad 1), .ref (ad 2), .ref (ad 3), .ref (ad 4), .int (nI (dPut fx d r).length), .int (sc 6), .ref (ad 7), .ref (ad 8), .ref (ad 9), .ref (ad 10), .ref (ad 11), .ref (ad 12), .ref (ad 13), .ref (ad 14), .ref (ad 15), .ref (ad 16), .int (sc 17), .ref (ad 18), .ref (ad 19), .ref (ad 20), .ref (ad 21), .ref (ad 22), .ref (ad 23)] x H2 := hO2
        have hF := hF.put hz2 hq2 (fun _ => ⟨by rw [hM.2.1.1], by rw [hM.2.1.1]; exact Nat.zero_le _⟩)
        have hM := hM.put (sc' := (upd (upd sc 0 0) 5 (nI (dPut fx d r).length))) hO hq2
        refine lv_aload_n hx hb dX5_fix_83 rfl (lv_at hl 0 rfl) ?_
        refine gf hx hb hts hown hE lkX5_17 hO rfl dX5_fix_84 ?_
        refine lv_iload_n hx hb dX5_fix_87 rfl (lv_at hl 1 rfl) ?_
        refine lv_iconst (v := 1) hx hb dX5_fix_88 (by decide) ?_
        have hA3 : ZA E 3001 (ar 3) (ad 3) H2 := hM.1.2 3 rfl
        refine asZ hx hb hE hS hA3 (hM.2.2 3 rfl).2  ej (by omega) (by omega) (Or.inr rfl) dX5_fix_89 (fun H3 L3 hO3 hz3 hq3 hE hS => ?_)
        have hA3 : ZA E 3001 (upd (ar 3) j 1) (ad 3) H3 := hO3
        have hF := hF.put hz3 hq3 (fun _ => ⟨by rw [(hM.2.2 3 rfl).1], by rw [(hM.2.2 3 rfl).1]; decide⟩)
        have hO := pk1 hO (hq3 x (hM.ne 3 rfl))
        have hM := hM.arr (k := 3) rfl hA3 hq3
        refine lv_aload_n hx hb dX5_fix_90 rfl (lv_at hl 0 rfl) ?_
        refine gf hx hb hts hown hE lkX5_20 hO rfl dX5_fix_91 ?_
        refine lv_iload_n hx hb dX5_fix_94 rfl (lv_at hl 1 rfl) ?_
        refine lv_iload_n hx hb dX5_fix_95 rfl (lv_at hl 2 rfl) ?_
        have hA4 : IA E 3001 ((upA ar 3 (upd (ar 3) j 1)) 4) (ad 4) H3 := hM.1.2 4 rfl
        refine asI hx hb hE hS hA4 (hM.2.2 4 rfl).2  ej (by omega) (by omega) dX5_fix_96 (fun H4 L4 hO4 hz4 hq4 hE hS => ?_)
        have hA4 : IA E 3001 (upd ((upA ar 3 (upd (ar 3) j 1)) 4) j r) (ad 4) H4 := hO4
        have hF := hF.put hz4 hq4 (fun _ => ⟨by rw [(hM.2.2 4 rfl).1], by rw [(hM.2.2 4 rfl).1]; decide⟩)
        have hO := pk1 hO (hq4 x (hM.ne 4 rfl))
        have hM := hM.arr (k := 4) rfl hA4 hq4
        refine lv_aload_n hx hb dX5_fix_97 rfl (lv_at hl 0 rfl) ?_
        refine gf hx hb hts hown hE lkX5_99 hO rfl dX5_fix_98 ?_
        have hIf := hI.fix (r := r) hV hj
        rw [← ej] at hIf
        exact cI hx hb hr hlk hB hS (by omega) (by omega) (⟨by rw [hcd]; rfl, Or.inr ⟨hcd, ⟨(upd (upd sc 0 0) 5 (nI (dPut fx d r).length)), ad, (upA (upA ar 3 (upd (ar 3) j 1)) 4 (upd ((upA ar 3 (upd (ar 3) j 1)) 4) j r)), hM, hIf, rfl⟩, hF, by omega⟩⟩) dX5_fix_101
      | false =>
        refine lv_if_ne (tgt := 47) hx hb dX5_fix_31 (by decide) (fun c8 => ?_) (fun c8 => ?_)
        · exact absurd (by decide) c8
        refine lv_aload_n hx hb dX5_fix_34 rfl (lv_at hl 0 rfl) ?_
        refine gf hx hb hts hown hE lkX5_99 hO rfl dX5_fix_35 ?_
        refine lv_bipush (v := 60) hx hb dX5_fix_38 (by decide) ?_
        refine lv_icmp_ne (tgt := 47) hx hb dX5_fix_40 (by decide) (fun c9 => ?_) (fun c9 => ?_)
        · have c10 : fx.length < 60 := by
            rcases Nat.lt_or_ge fx.length 60 with q9 | q9
            · exact q9
            · exact absurd (show sc 5 = 60 by rw [h5, show fx.length = 60 by omega]; rfl) c9
          have hcd : cdFix fx d r = 0 := by unfold cdFix; rw [c3, c5]; simp [Nat.not_le.mpr c10]
          refine lv_iconst (v := 0) hx hb dX5_fix_47 (by decide) ?_
          refine pf hx hb hts hown hE hS pkX5_71 rfl hO hM.2.1.2 rfl rfl (Nat.le_of_ble_eq_true rfl) dX5_fix_48 (fun H1 L1 hO1 hz1 hq1 hE hS => ?_)
          have hO : OB E 6 [.int 0, .ref (ad 1), .ref (ad 2), .ref (ad 3), .ref (ad 4), .int (sc 5), .int (sc 6), .ref (ad 7), .ref (ad 8), .ref (ad 9), .ref (ad 10), .ref (ad 11), .ref (ad 12), .ref (ad 13), .ref (ad 14), .ref (ad 15), .ref (ad 16), .int (sc 17), .ref (ad 18), .ref (ad 19), .ref (ad 20), .ref (ad 21), .ref (ad 22), .ref (ad 23)] x H1 := hO1
          have hF := hF.put hz1 hq1 (fun _ => ⟨by rw [hM.2.1.1], by rw [hM.2.1.1]; exact Nat.zero_le _⟩)
          have hM := hM.put (sc' := (upd sc 0 0)) hO hq1
          have hI : MI (upd sc 0 0) ar h0 h1 fx ts B := hI
          refine lv_aload_n hx hb dX5_fix_51 rfl (lv_at hl 0 rfl) ?_
          refine gf hx hb hts hown hE lkX5_71 hO rfl dX5_fix_52 ?_
          refine lv_if_le (tgt := 60) hx hb dX5_fix_55 (by decide) (fun c99 => ?_) (fun c99 => ?_)
          rotate_left
          · exact absurd (by decide) c99
          refine lv_aload_n hx hb dX5_fix_60 rfl (lv_at hl 0 rfl) ?_
          refine lv_dup hx hb dX5_fix_61 rfl ?_
          refine gf hx hb hts hown hE lkX5_99 hO rfl dX5_fix_62 ?_
          refine lv_aload_n hx hb dX5_fix_65 rfl (lv_at hl 0 rfl) ?_
          refine gf hx hb hts hown hE lkX5_17 hO rfl dX5_fix_66 ?_
          refine lv_iload_n hx hb dX5_fix_69 rfl (lv_at hl 1 rfl) ?_
          have hA3 : ZA E 3001 (ar 3) (ad 3) H1 := hM.1.2 3 rfl
          refine aZ hx hb hE hA3 ej (by omega) (by omega) hfr.1 dX5_fix_70 ?_
          rw [show (if dHas fx d then (1 : Int32) else 0) = 0 by rw [c7]; rfl]
          refine lv_if_eq (tgt := 78) hx hb dX5_fix_71 (by decide) (fun c98 => ?_) (fun c98 => ?_)
          rotate_left
          · exact absurd (by decide) c98
          refine lv_iconst (v := 1) hx hb dX5_fix_78 (by decide) ?_
          refine lv_iadd hx hb dX5_fix_79 ?_
          have hlen : sc 5 + 1 = nI (dPut fx d r).length := by rw [h5, dPut_len, c7]; exact nI_1 _
          rw [hlen]
          refine pf hx hb hts hown hE hS pkX5_99 rfl hO hM.2.1.2 rfl rfl (Nat.le_of_ble_eq_true rfl) dX5_fix_80 (fun H2 L2 hO2 hz2 hq2 hE hS => ?_)
          have hO : OB E 6 [.int 0, .ref (ad 1), .ref (ad 2), .ref (ad 3), .ref (ad 4), .int (nI (dPut fx d r).length), .int (sc 6), .ref (ad 7), .ref (ad 8), .ref (ad 9), .ref (ad 10), .ref (ad 11), .ref (ad 12), .ref (ad 13), .ref (ad 14), .ref (ad 15), .ref (ad 16), .int (sc 17), .ref (ad 18), .ref (ad 19), .ref (ad 20), .ref (ad 21), .ref (ad 22), .ref (ad 23)] x H2 := hO2
          have hF := hF.put hz2 hq2 (fun _ => ⟨by rw [hM.2.1.1], by rw [hM.2.1.1]; exact Nat.zero_le _⟩)
          have hM := hM.put (sc' := (upd (upd sc 0 0) 5 (nI (dPut fx d r).length))) hO hq2
          refine lv_aload_n hx hb dX5_fix_83 rfl (lv_at hl 0 rfl) ?_
          refine gf hx hb hts hown hE lkX5_17 hO rfl dX5_fix_84 ?_
          refine lv_iload_n hx hb dX5_fix_87 rfl (lv_at hl 1 rfl) ?_
          refine lv_iconst (v := 1) hx hb dX5_fix_88 (by decide) ?_
          have hA3 : ZA E 3001 (ar 3) (ad 3) H2 := hM.1.2 3 rfl
          refine asZ hx hb hE hS hA3 (hM.2.2 3 rfl).2  ej (by omega) (by omega) (Or.inr rfl) dX5_fix_89 (fun H3 L3 hO3 hz3 hq3 hE hS => ?_)
          have hA3 : ZA E 3001 (upd (ar 3) j 1) (ad 3) H3 := hO3
          have hF := hF.put hz3 hq3 (fun _ => ⟨by rw [(hM.2.2 3 rfl).1], by rw [(hM.2.2 3 rfl).1]; decide⟩)
          have hO := pk1 hO (hq3 x (hM.ne 3 rfl))
          have hM := hM.arr (k := 3) rfl hA3 hq3
          refine lv_aload_n hx hb dX5_fix_90 rfl (lv_at hl 0 rfl) ?_
          refine gf hx hb hts hown hE lkX5_20 hO rfl dX5_fix_91 ?_
          refine lv_iload_n hx hb dX5_fix_94 rfl (lv_at hl 1 rfl) ?_
          refine lv_iload_n hx hb dX5_fix_95 rfl (lv_at hl 2 rfl) ?_
          have hA4 : IA E 3001 ((upA ar 3 (upd (ar 3) j 1)) 4) (ad 4) H3 := hM.1.2 4 rfl
          refine asI hx hb hE hS hA4 (hM.2.2 4 rfl).2  ej (by omega) (by omega) dX5_fix_96 (fun H4 L4 hO4 hz4 hq4 hE hS => ?_)
          have hA4 : IA E 3001 (upd ((upA ar 3 (upd (ar 3) j 1)) 4) j r) (ad 4) H4 := hO4
          have hF := hF.put hz4 hq4 (fun _ => ⟨by rw [(hM.2.2 4 rfl).1], by rw [(hM.2.2 4 rfl).1]; decide⟩)
          have hO := pk1 hO (hq4 x (hM.ne 4 rfl))
          have hM := hM.arr (k := 4) rfl hA4 hq4
          refine lv_aload_n hx hb dX5_fix_97 rfl (lv_at hl 0 rfl) ?_
          refine gf hx hb hts hown hE lkX5_99 hO rfl dX5_fix_98 ?_
          have hIf := hI.fix (r := r) hV hj
          rw [← ej] at hIf
          exact cI hx hb hr hlk hB hS (by omega) (by omega) (⟨by rw [hcd]; rfl, Or.inr ⟨hcd, ⟨(upd (upd sc 0 0) 5 (nI (dPut fx d r).length)), ad, (upA (upA ar 3 (upd (ar 3) j 1)) 4 (upd ((upA ar 3 (upd (ar 3) j 1)) 4) j r)), hM, hIf, rfl⟩, hF, by omega⟩⟩) dX5_fix_101
        · have c10 : 60 ≤ fx.length := by
            have c11 := h5.symm.trans c9
            have := (nI_eq (a := fx.length) (b := 60) (by omega) (by decide)).mp c11
            omega
          have hcd : cdFix fx d r = 2 := by unfold cdFix; rw [c3, c5, c7]; simp [c10]
          refine lv_iconst (v := 2) hx hb dX5_fix_43 (by decide) ?_
          refine lv_goto (tgt := 48) hx hb dX5_fix_44 (by decide) ?_
          refine pf hx hb hts hown hE hS pkX5_71 rfl hO hM.2.1.2 rfl rfl (Nat.le_of_ble_eq_true rfl) dX5_fix_48 (fun H1 L1 hO1 hz1 hq1 hE hS => ?_)
          have hO : OB E 6 [.int 2, .ref (ad 1), .ref (ad 2), .ref (ad 3), .ref (ad 4), .int (sc 5), .int (sc 6), .ref (ad 7), .ref (ad 8), .ref (ad 9), .ref (ad 10), .ref (ad 11), .ref (ad 12), .ref (ad 13), .ref (ad 14), .ref (ad 15), .ref (ad 16), .int (sc 17), .ref (ad 18), .ref (ad 19), .ref (ad 20), .ref (ad 21), .ref (ad 22), .ref (ad 23)] x H1 := hO1
          have hF := hF.put hz1 hq1 (fun _ => ⟨by rw [hM.2.1.1], by rw [hM.2.1.1]; exact Nat.zero_le _⟩)
          have hM := hM.put (sc' := (upd sc 0 2)) hO hq1
          have hI : MI (upd sc 0 2) ar h0 h1 fx ts B := hI
          refine lv_aload_n hx hb dX5_fix_51 rfl (lv_at hl 0 rfl) ?_
          refine gf hx hb hts hown hE lkX5_71 hO rfl dX5_fix_52 ?_
          refine lv_if_le (tgt := 60) hx hb dX5_fix_55 (by decide) (fun c99 => ?_) (fun c99 => ?_)
          · exact absurd c99 (by decide)
          refine lv_iconst (v := 0) hx hb dX5_fix_58 (by decide) ?_
          exact cI hx hb hr hlk hB hS (by omega) (by omega) (⟨by rw [hcd]; rfl, Or.inl ⟨by rw [hcd]; decide, by rw [hcd]; exact ⟨⟨(upd sc 0 2), ad, ar, hM, hI, rfl⟩, hF, by omega⟩⟩⟩) dX5_fix_59

set_option maxRecDepth 100000 in
set_option maxHeartbeats 4000000 in
/-- holiday -/
theorem c_mhol (E : ET) (ow : Nat → Nat × Nat) (x : Nat) (sc : Nat → Int32) (ad : Nat → Nat) (ar : Nat → Nat → Int32) (h0 h1 fx : Dy) (ts : List TR) (B : BK) (town d : Int32) (H : Heap) (hM : MR E ow x sc ad ar H) (hI : MI sc ar h0 h1 fx ts B) (hV : SV h0 h1 fx ts)  : Con E yX5_holiday cX5_holiday 3 (some FieldType.int) 4 0 0 [.ref x, .int town, .int d] H (o1 (some (.int (if cdHol h0 h1 town d = 0 then (nI ((if town = 0 then h0 else h1).length + 1)) else 0))) (fun H' => (¬ cdHol h0 h1 town d = 0 ∧ MO E ow x h0 h1 fx ts B (cdHol h0 h1 town d) H H') ∨ (cdHol h0 h1 town d = 0 ∧ MO E ow x (if town = 0 then h0 ++ [(d, town)] else h0) (if town = 0 then h1 else h1 ++ [(d, town)]) fx ts B 0 H H'))) := by
  refine Con.of (C := RX5) rfl (by decide +kernel) (Nat.le_of_ble_eq_true rfl) ?_
  intro p e s m below meth co ls hx hb hr hlk hml hown hts hin hE hH hS hl
  have hl : lv_has ls 3 [(0, .ref x), (1, .int town), (2, .int d)] := hl
  have hB : eB E ≤ s.heap.size := by rw [hH]; exact hE.2.1
  have hO := hM.1.1
  have htn := hV.tn
  have hn6 := hI.2.2.2.2.1
  have hF : FR (fun z => (ow z).1 = 4 ∧ (ow z).2 ≤ 23) H H := FR.rf
  have v0 := hV.1
  have v1 := hV.2.1
  refine lv_aload_n hx hb dX5_holiday_0 rfl (lv_at hl 0 rfl) ?_
  refine lv_iload_n hx hb dX5_holiday_1 rfl (lv_at hl 1 rfl) ?_
  refine lv_iconst (v := 0) hx hb dX5_holiday_2 (by decide) ?_
  refine lv_iconst (v := 1) hx hb dX5_holiday_3 (by decide) ?_
  refine pS hx hb hml hts hown hE kwX5_75 (c_in E town 0 1 H) (Nat.le_of_ble_eq_true rfl) rfl hl.1 rfl (Nat.le_of_ble_eq_true rfl) (by omega) (by omega) dX5_holiday_4 ?_
  cases c1 : inB town 0 1 with
  | false =>
    refine lv_if_ne (tgt := 14) hx hb dX5_holiday_7 (by decide) (fun c2 => ?_) (fun c2 => ?_)
    · exact absurd (by decide) c2
    have hcd : cdHol h0 h1 town d = 1 := by unfold cdHol; rw [c1]; rfl
    refine lv_iconst (v := 1) hx hb dX5_holiday_10 (by decide) ?_
    refine lv_goto (tgt := 56) hx hb dX5_holiday_11 (by decide) ?_
    refine pf hx hb hts hown hE hS pkX5_71 rfl hO hM.2.1.2 rfl rfl (Nat.le_of_ble_eq_true rfl) dX5_holiday_56 (fun H1 L1 hO1 hz1 hq1 hE hS => ?_)
    have hO : OB E 6 [.int 1, .ref (ad 1), .ref (ad 2), .ref (ad 3), .ref (ad 4), .int (sc 5), .int (sc 6), .ref (ad 7), .ref (ad 8), .ref (ad 9), .ref (ad 10), .ref (ad 11), .ref (ad 12), .ref (ad 13), .ref (ad 14), .ref (ad 15), .ref (ad 16), .int (sc 17), .ref (ad 18), .ref (ad 19), .ref (ad 20), .ref (ad 21), .ref (ad 22), .ref (ad 23)] x H1 := hO1
    have hF := hF.put hz1 hq1 (fun _ => ⟨by rw [hM.2.1.1], by rw [hM.2.1.1]; exact Nat.zero_le _⟩)
    have hM := hM.put (sc' := (upd sc 0 1)) hO hq1
    have hI : MI (upd sc 0 1) ar h0 h1 fx ts B := hI
    refine lv_aload_n hx hb dX5_holiday_59 rfl (lv_at hl 0 rfl) ?_
    refine gf hx hb hts hown hE lkX5_71 hO rfl dX5_holiday_60 ?_
    refine lv_if_le (tgt := 68) hx hb dX5_holiday_63 (by decide) (fun c99 => ?_) (fun c99 => ?_)
    · exact absurd c99 (by decide)
    refine lv_iconst (v := 0) hx hb dX5_holiday_66 (by decide) ?_
    exact cI hx hb hr hlk hB hS (by omega) (by omega) (⟨by rw [hcd]; rfl, Or.inl ⟨by rw [hcd]; decide, by rw [hcd]; exact ⟨⟨(upd sc 0 1), ad, ar, hM, hI, rfl⟩, hF, by omega⟩⟩⟩) dX5_holiday_67
  | true =>
    refine lv_if_ne (tgt := 14) hx hb dX5_holiday_7 (by decide) (fun c2 => ?_) (fun c2 => ?_)
    rotate_left
    · exact absurd c2 (by decide)
    refine lv_iload_n hx hb dX5_holiday_14 rfl (lv_at hl 2 rfl) ?_
    refine pS hx hb hml hts hown hE kwX5_89 (c_isDay E d H) (Nat.le_of_ble_eq_true rfl) rfl hl.1 rfl (Nat.le_of_ble_eq_true rfl) (by omega) (by omega) dX5_holiday_15 ?_
    cases c3 : inB d 0 3000 with
    | false =>
      refine lv_if_ne (tgt := 25) hx hb dX5_holiday_18 (by decide) (fun c4 => ?_) (fun c4 => ?_)
      · exact absurd (by decide) c4
      have hcd : cdHol h0 h1 town d = 2 := by unfold cdHol; rw [c1, c3]; rfl
      refine lv_iconst (v := 2) hx hb dX5_holiday_21 (by decide) ?_
      refine lv_goto (tgt := 56) hx hb dX5_holiday_22 (by decide) ?_
      refine pf hx hb hts hown hE hS pkX5_71 rfl hO hM.2.1.2 rfl rfl (Nat.le_of_ble_eq_true rfl) dX5_holiday_56 (fun H1 L1 hO1 hz1 hq1 hE hS => ?_)
      have hO : OB E 6 [.int 2, .ref (ad 1), .ref (ad 2), .ref (ad 3), .ref (ad 4), .int (sc 5), .int (sc 6), .ref (ad 7), .ref (ad 8), .ref (ad 9), .ref (ad 10), .ref (ad 11), .ref (ad 12), .ref (ad 13), .ref (ad 14), .ref (ad 15), .ref (ad 16), .int (sc 17), .ref (ad 18), .ref (ad 19), .ref (ad 20), .ref (ad 21), .ref (ad 22), .ref (ad 23)] x H1 := hO1
      have hF := hF.put hz1 hq1 (fun _ => ⟨by rw [hM.2.1.1], by rw [hM.2.1.1]; exact Nat.zero_le _⟩)
      have hM := hM.put (sc' := (upd sc 0 2)) hO hq1
      have hI : MI (upd sc 0 2) ar h0 h1 fx ts B := hI
      refine lv_aload_n hx hb dX5_holiday_59 rfl (lv_at hl 0 rfl) ?_
      refine gf hx hb hts hown hE lkX5_71 hO rfl dX5_holiday_60 ?_
      refine lv_if_le (tgt := 68) hx hb dX5_holiday_63 (by decide) (fun c99 => ?_) (fun c99 => ?_)
      · exact absurd c99 (by decide)
      refine lv_iconst (v := 0) hx hb dX5_holiday_66 (by decide) ?_
      exact cI hx hb hr hlk hB hS (by omega) (by omega) (⟨by rw [hcd]; rfl, Or.inl ⟨by rw [hcd]; decide, by rw [hcd]; exact ⟨⟨(upd sc 0 2), ad, ar, hM, hI, rfl⟩, hF, by omega⟩⟩⟩) dX5_holiday_67
    | true =>
      refine lv_if_ne (tgt := 25) hx hb dX5_holiday_18 (by decide) (fun c4 => ?_) (fun c4 => ?_)
      rotate_left
      · exact absurd c4 (by decide)
      obtain ⟨j, hj, ej⟩ := inB_nI (n := 3000) c3
      have hhr := hI.1 j hj
      rw [← ej] at hhr
      rcases inB01 c1 with e0 | e0
      · subst e0
        have i0 : (if (0 : Int32) = 0 then h0 else h1) = h0 := if_pos rfl
        have i1 : (if (0 : Int32) = 0 then h0 ++ [(d, 0)] else h0) = h0 ++ [(d, 0)] := if_pos rfl
        have i2 : (if (0 : Int32) = 0 then h1 else h1 ++ [(d, 0)]) = h1 := if_pos rfl
        have h2 : ar 2 0 = nI h0.length := hI.2.1.1
        have hix : (3001 : Int32) * 0 + d = nI j := by rw [ej]; rw [show (3001 : Int32) * 0 = 0 by decide]; exact Int32.zero_add _
        refine lv_aload_n hx hb dX5_holiday_25 rfl (lv_at hl 0 rfl) ?_
        refine gf hx hb hts hown hE lkX5_7 hO rfl dX5_holiday_26 ?_
        refine lv_sipush (v := 3001) hx hb dX5_holiday_29 (by decide) ?_
        refine lv_iload_n hx hb dX5_holiday_32 rfl (lv_at hl 1 rfl) ?_
        refine lv_imul hx hb dX5_holiday_33 ?_
        refine lv_iload_n hx hb dX5_holiday_34 rfl (lv_at hl 2 rfl) ?_
        refine lv_iadd hx hb dX5_holiday_35 ?_
        have hA1 : ZA E 6002 (ar 1) (ad 1) H := hM.1.2 1 rfl
        refine aZ hx hb hE hA1 hix (by omega) (by omega) hhr.1 dX5_holiday_36 ?_
        cases c7 : dHas h0 d with
        | true =>
          refine lv_if_ne (tgt := 51) hx hb dX5_holiday_37 (by decide) (fun c8 => ?_) (fun c8 => ?_)
          rotate_left
          · exact absurd c8 (by decide)
          have hcd : cdHol h0 h1 0 d = 3 := by unfold cdHol; rw [c1, c3, if_pos rfl, if_pos rfl, i0]; simp [c7]
          refine lv_iconst (v := 3) hx hb dX5_holiday_51 (by decide) ?_
          refine lv_goto (tgt := 56) hx hb dX5_holiday_52 (by decide) ?_
          refine pf hx hb hts hown hE hS pkX5_71 rfl hO hM.2.1.2 rfl rfl (Nat.le_of_ble_eq_true rfl) dX5_holiday_56 (fun H1 L1 hO1 hz1 hq1 hE hS => ?_)
          have hO : OB E 6 [.int 3, .ref (ad 1), .ref (ad 2), .ref (ad 3), .ref (ad 4), .int (sc 5), .int (sc 6), .ref (ad 7), .ref (ad 8), .ref (ad 9), .ref (ad 10), .ref (ad 11), .ref (ad 12), .ref (ad 13), .ref (ad 14), .ref (ad 15), .ref (ad 16), .int (sc 17), .ref (ad 18), .ref (ad 19), .ref (ad 20), .ref (ad 21), .ref (ad 22), .ref (ad 23)] x H1 := hO1
          have hF := hF.put hz1 hq1 (fun _ => ⟨by rw [hM.2.1.1], by rw [hM.2.1.1]; exact Nat.zero_le _⟩)
          have hM := hM.put (sc' := (upd sc 0 3)) hO hq1
          have hI : MI (upd sc 0 3) ar h0 h1 fx ts B := hI
          refine lv_aload_n hx hb dX5_holiday_59 rfl (lv_at hl 0 rfl) ?_
          refine gf hx hb hts hown hE lkX5_71 hO rfl dX5_holiday_60 ?_
          refine lv_if_le (tgt := 68) hx hb dX5_holiday_63 (by decide) (fun c99 => ?_) (fun c99 => ?_)
          · exact absurd c99 (by decide)
          refine lv_iconst (v := 0) hx hb dX5_holiday_66 (by decide) ?_
          exact cI hx hb hr hlk hB hS (by omega) (by omega) (⟨by rw [hcd]; rfl, Or.inl ⟨by rw [hcd]; decide, by rw [hcd]; exact ⟨⟨(upd sc 0 3), ad, ar, hM, hI, rfl⟩, hF, by omega⟩⟩⟩) dX5_holiday_67
        | false =>
          refine lv_if_ne (tgt := 51) hx hb dX5_holiday_37 (by decide) (fun c8 => ?_) (fun c8 => ?_)
          · exact absurd (by decide) c8
          refine lv_aload_n hx hb dX5_holiday_40 rfl (lv_at hl 0 rfl) ?_
          refine gf hx hb hts hown hE lkX5_13 hO rfl dX5_holiday_41 ?_
          refine lv_iload_n hx hb dX5_holiday_44 rfl (lv_at hl 1 rfl) ?_
          have hA2 : IA E 2 (ar 2) (ad 2) H := hM.1.2 2 rfl
          refine aI hx hb hE hA2 (rfl : (0 : Int32) = nI 0) (show (0 : Nat) < 2 by decide) (by omega) h2 dX5_holiday_45 ?_
          refine lv_bipush (v := 20) hx hb dX5_holiday_46 (by decide) ?_
          refine lv_icmp_ne (tgt := 55) hx hb dX5_holiday_48 (by decide) (fun c9 => ?_) (fun c9 => ?_)
          · have c10 : h0.length < 20 := by
              rcases Nat.lt_or_ge h0.length 20 with q9 | q9
              · exact q9
              · exact absurd (show nI h0.length = 20 by rw [show h0.length = 20 by omega]; rfl) c9
            have hcd : cdHol h0 h1 0 d = 0 := by unfold cdHol; rw [c1, c3, if_pos rfl, if_pos rfl, i0]; simp [Nat.not_le.mpr c10, c7]
            refine lv_iconst (v := 0) hx hb dX5_holiday_55 (by decide) ?_
            refine pf hx hb hts hown hE hS pkX5_71 rfl hO hM.2.1.2 rfl rfl (Nat.le_of_ble_eq_true rfl) dX5_holiday_56 (fun H1 L1 hO1 hz1 hq1 hE hS => ?_)
            have hO : OB E 6 [.int 0, .ref (ad 1), .ref (ad 2), .ref (ad 3), .ref (ad 4), .int (sc 5), .int (sc 6), .ref (ad 7), .ref (ad 8), .ref (ad 9), .ref (ad 10), .ref (ad 11), .ref (ad 12), .ref (ad 13), .ref (ad 14), .ref (ad 15), .ref (ad 16), .int (sc 17), .ref (ad 18), .ref (ad 19), .ref (ad 20), .ref (ad 21), .ref (ad 22), .ref (ad 23)] x H1 := hO1
            have hF := hF.put hz1 hq1 (fun _ => ⟨by rw [hM.2.1.1], by rw [hM.2.1.1]; exact Nat.zero_le _⟩)
            have hM := hM.put (sc' := (upd sc 0 0)) hO hq1
            have hI : MI (upd sc 0 0) ar h0 h1 fx ts B := hI
            refine lv_aload_n hx hb dX5_holiday_59 rfl (lv_at hl 0 rfl) ?_
            refine gf hx hb hts hown hE lkX5_71 hO rfl dX5_holiday_60 ?_
            refine lv_if_le (tgt := 68) hx hb dX5_holiday_63 (by decide) (fun c99 => ?_) (fun c99 => ?_)
            rotate_left
            · exact absurd (by decide) c99
            refine lv_aload_n hx hb dX5_holiday_68 rfl (lv_at hl 0 rfl) ?_
            refine gf hx hb hts hown hE lkX5_7 hO rfl dX5_holiday_69 ?_
            refine lv_sipush (v := 3001) hx hb dX5_holiday_72 (by decide) ?_
            refine lv_iload_n hx hb dX5_holiday_75 rfl (lv_at hl 1 rfl) ?_
            refine lv_imul hx hb dX5_holiday_76 ?_
            refine lv_iload_n hx hb dX5_holiday_77 rfl (lv_at hl 2 rfl) ?_
            refine lv_iadd hx hb dX5_holiday_78 ?_
            refine lv_iconst (v := 1) hx hb dX5_holiday_79 (by decide) ?_
            have hA1 : ZA E 6002 (ar 1) (ad 1) H1 := hM.1.2 1 rfl
            refine asZ hx hb hE hS hA1 (hM.2.2 1 rfl).2  hix (by omega) (by omega) (Or.inr rfl) dX5_holiday_80 (fun H2 L2 hO2 hz2 hq2 hE hS => ?_)
            have hA1 : ZA E 6002 (upd (ar 1) j 1) (ad 1) H2 := hO2
            have hF := hF.put hz2 hq2 (fun _ => ⟨by rw [(hM.2.2 1 rfl).1], by rw [(hM.2.2 1 rfl).1]; decide⟩)
            have hO := pk1 hO (hq2 x (hM.ne 1 rfl))
            have hM := hM.arr (k := 1) rfl hA1 hq2
            refine lv_aload_n hx hb dX5_holiday_81 rfl (lv_at hl 0 rfl) ?_
            refine gf hx hb hts hown hE lkX5_13 hO rfl dX5_holiday_82 ?_
            refine lv_iload_n hx hb dX5_holiday_85 rfl (lv_at hl 1 rfl) ?_
            refine lv_dup2_11 hx hb dX5_holiday_86 rfl rfl ?_
            have hA2 : IA E 2 ((upA ar 1 (upd (ar 1) j 1)) 2) (ad 2) H2 := hM.1.2 2 rfl
            refine aI hx hb hE hA2 (rfl : (0 : Int32) = nI 0) (show (0 : Nat) < 2 by decide) (by omega) h2 dX5_holiday_87 ?_
            refine lv_iconst (v := 1) hx hb dX5_holiday_88 (by decide) ?_
            refine lv_iadd hx hb dX5_holiday_89 ?_
            rw [show nI h0.length + 1 = nI (h0.length + 1) from nI_1 _]
            have hA2 : IA E 2 ((upA ar 1 (upd (ar 1) j 1)) 2) (ad 2) H2 := hM.1.2 2 rfl
            refine asI hx hb hE hS hA2 (hM.2.2 2 rfl).2  (rfl : (0 : Int32) = nI 0) (show (0 : Nat) < 2 by decide) (by omega) dX5_holiday_90 (fun H3 L3 hO3 hz3 hq3 hE hS => ?_)
            have hA2 : IA E 2 (upd ((upA ar 1 (upd (ar 1) j 1)) 2) 0 (nI (h0.length + 1))) (ad 2) H3 := hO3
            have hF := hF.put hz3 hq3 (fun _ => ⟨by rw [(hM.2.2 2 rfl).1], by rw [(hM.2.2 2 rfl).1]; decide⟩)
            have hO := pk1 hO (hq3 x (hM.ne 2 rfl))
            have hM := hM.arr (k := 2) rfl hA2 hq3
            refine lv_aload_n hx hb dX5_holiday_91 rfl (lv_at hl 0 rfl) ?_
            refine gf hx hb hts hown hE lkX5_13 hO rfl dX5_holiday_92 ?_
            refine lv_iload_n hx hb dX5_holiday_95 rfl (lv_at hl 1 rfl) ?_
            have hA2 : IA E 2 ((upA (upA ar 1 (upd (ar 1) j 1)) 2 (upd ((upA ar 1 (upd (ar 1) j 1)) 2) 0 (nI (h0.length + 1)))) 2) (ad 2) H3 := hM.1.2 2 rfl
            refine aI hx hb hE hA2 (rfl : (0 : Int32) = nI 0) (show (0 : Nat) < 2 by decide) (by omega) (by show upd (ar 2) 0 (nI (h0.length + 1)) 0 = _; exact pk_us) dX5_holiday_96 ?_
            have hIh := hI.hol0 (v := 0) hj
            rw [← ej] at hIh
            exact cI hx hb hr hlk hB hS (by omega) (by omega) (⟨by rw [hcd, i0]; rfl, Or.inr ⟨hcd, by rw [i1, i2]; exact ⟨⟨(upd sc 0 0), ad, (upA (upA ar 1 (upd (ar 1) j 1)) 2 (upd ((upA ar 1 (upd (ar 1) j 1)) 2) 0 (nI (h0.length + 1)))), hM, hIh, rfl⟩, hF, by omega⟩⟩⟩) dX5_holiday_97
          · have c10 : 20 ≤ h0.length := by
              have := (nI_eq (a := h0.length) (b := 20) (by omega) (by decide)).mp c9
              omega
            have hcd : cdHol h0 h1 0 d = 3 := by unfold cdHol; rw [c1, c3, if_pos rfl, if_pos rfl, i0]; simp [c10]
            refine lv_iconst (v := 3) hx hb dX5_holiday_51 (by decide) ?_
            refine lv_goto (tgt := 56) hx hb dX5_holiday_52 (by decide) ?_
            refine pf hx hb hts hown hE hS pkX5_71 rfl hO hM.2.1.2 rfl rfl (Nat.le_of_ble_eq_true rfl) dX5_holiday_56 (fun H1 L1 hO1 hz1 hq1 hE hS => ?_)
            have hO : OB E 6 [.int 3, .ref (ad 1), .ref (ad 2), .ref (ad 3), .ref (ad 4), .int (sc 5), .int (sc 6), .ref (ad 7), .ref (ad 8), .ref (ad 9), .ref (ad 10), .ref (ad 11), .ref (ad 12), .ref (ad 13), .ref (ad 14), .ref (ad 15), .ref (ad 16), .int (sc 17), .ref (ad 18), .ref (ad 19), .ref (ad 20), .ref (ad 21), .ref (ad 22), .ref (ad 23)] x H1 := hO1
            have hF := hF.put hz1 hq1 (fun _ => ⟨by rw [hM.2.1.1], by rw [hM.2.1.1]; exact Nat.zero_le _⟩)
            have hM := hM.put (sc' := (upd sc 0 3)) hO hq1
            have hI : MI (upd sc 0 3) ar h0 h1 fx ts B := hI
            refine lv_aload_n hx hb dX5_holiday_59 rfl (lv_at hl 0 rfl) ?_
            refine gf hx hb hts hown hE lkX5_71 hO rfl dX5_holiday_60 ?_
            refine lv_if_le (tgt := 68) hx hb dX5_holiday_63 (by decide) (fun c99 => ?_) (fun c99 => ?_)
            · exact absurd c99 (by decide)
            refine lv_iconst (v := 0) hx hb dX5_holiday_66 (by decide) ?_
            exact cI hx hb hr hlk hB hS (by omega) (by omega) (⟨by rw [hcd]; rfl, Or.inl ⟨by rw [hcd]; decide, by rw [hcd]; exact ⟨⟨(upd sc 0 3), ad, ar, hM, hI, rfl⟩, hF, by omega⟩⟩⟩) dX5_holiday_67
      · subst e0
        have i0 : (if (1 : Int32) = 0 then h0 else h1) = h1 := if_neg (by decide)
        have i1 : (if (1 : Int32) = 0 then h0 ++ [(d, 1)] else h0) = h0 := if_neg (by decide)
        have i2 : (if (1 : Int32) = 0 then h1 else h1 ++ [(d, 1)]) = h1 ++ [(d, 1)] := if_neg (by decide)
        have h2 : ar 2 1 = nI h1.length := hI.2.1.2
        have hix : (3001 : Int32) * 1 + d = nI (3001 + j) := by rw [ej]; rw [show (3001 : Int32) * 1 = nI 3001 by decide]; exact nI_add 3001 j
        refine lv_aload_n hx hb dX5_holiday_25 rfl (lv_at hl 0 rfl) ?_
        refine gf hx hb hts hown hE lkX5_7 hO rfl dX5_holiday_26 ?_
        refine lv_sipush (v := 3001) hx hb dX5_holiday_29 (by decide) ?_
        refine lv_iload_n hx hb dX5_holiday_32 rfl (lv_at hl 1 rfl) ?_
        refine lv_imul hx hb dX5_holiday_33 ?_
        refine lv_iload_n hx hb dX5_holiday_34 rfl (lv_at hl 2 rfl) ?_
        refine lv_iadd hx hb dX5_holiday_35 ?_
        have hA1 : ZA E 6002 (ar 1) (ad 1) H := hM.1.2 1 rfl
        refine aZ hx hb hE hA1 hix (by omega) (by omega) hhr.2 dX5_holiday_36 ?_
        cases c7 : dHas h1 d with
        | true =>
          refine lv_if_ne (tgt := 51) hx hb dX5_holiday_37 (by decide) (fun c8 => ?_) (fun c8 => ?_)
          rotate_left
          · exact absurd c8 (by decide)
          have hcd : cdHol h0 h1 1 d = 3 := by unfold cdHol; rw [c1, c3, if_pos rfl, if_pos rfl, i0]; simp [c7]
          refine lv_iconst (v := 3) hx hb dX5_holiday_51 (by decide) ?_
          refine lv_goto (tgt := 56) hx hb dX5_holiday_52 (by decide) ?_
          refine pf hx hb hts hown hE hS pkX5_71 rfl hO hM.2.1.2 rfl rfl (Nat.le_of_ble_eq_true rfl) dX5_holiday_56 (fun H1 L1 hO1 hz1 hq1 hE hS => ?_)
          have hO : OB E 6 [.int 3, .ref (ad 1), .ref (ad 2), .ref (ad 3), .ref (ad 4), .int (sc 5), .int (sc 6), .ref (ad 7), .ref (ad 8), .ref (ad 9), .ref (ad 10), .ref (ad 11), .ref (ad 12), .ref (ad 13), .ref (ad 14), .ref (ad 15), .ref (ad 16), .int (sc 17), .ref (ad 18), .ref (ad 19), .ref (ad 20), .ref (ad 21), .ref (ad 22), .ref (ad 23)] x H1 := hO1
          have hF := hF.put hz1 hq1 (fun _ => ⟨by rw [hM.2.1.1], by rw [hM.2.1.1]; exact Nat.zero_le _⟩)
          have hM := hM.put (sc' := (upd sc 0 3)) hO hq1
          have hI : MI (upd sc 0 3) ar h0 h1 fx ts B := hI
          refine lv_aload_n hx hb dX5_holiday_59 rfl (lv_at hl 0 rfl) ?_
          refine gf hx hb hts hown hE lkX5_71 hO rfl dX5_holiday_60 ?_
          refine lv_if_le (tgt := 68) hx hb dX5_holiday_63 (by decide) (fun c99 => ?_) (fun c99 => ?_)
          · exact absurd c99 (by decide)
          refine lv_iconst (v := 0) hx hb dX5_holiday_66 (by decide) ?_
          exact cI hx hb hr hlk hB hS (by omega) (by omega) (⟨by rw [hcd]; rfl, Or.inl ⟨by rw [hcd]; decide, by rw [hcd]; exact ⟨⟨(upd sc 0 3), ad, ar, hM, hI, rfl⟩, hF, by omega⟩⟩⟩) dX5_holiday_67
        | false =>
          refine lv_if_ne (tgt := 51) hx hb dX5_holiday_37 (by decide) (fun c8 => ?_) (fun c8 => ?_)
          · exact absurd (by decide) c8
          refine lv_aload_n hx hb dX5_holiday_40 rfl (lv_at hl 0 rfl) ?_
          refine gf hx hb hts hown hE lkX5_13 hO rfl dX5_holiday_41 ?_
          refine lv_iload_n hx hb dX5_holiday_44 rfl (lv_at hl 1 rfl) ?_
          have hA2 : IA E 2 (ar 2) (ad 2) H := hM.1.2 2 rfl
          refine aI hx hb hE hA2 (rfl : (1 : Int32) = nI 1) (show (1 : Nat) < 2 by decide) (by omega) h2 dX5_holiday_45 ?_
          refine lv_bipush (v := 20) hx hb dX5_holiday_46 (by decide) ?_
          refine lv_icmp_ne (tgt := 55) hx hb dX5_holiday_48 (by decide) (fun c9 => ?_) (fun c9 => ?_)
          · have c10 : h1.length < 20 := by
              rcases Nat.lt_or_ge h1.length 20 with q9 | q9
              · exact q9
              · exact absurd (show nI h1.length = 20 by rw [show h1.length = 20 by omega]; rfl) c9
            have hcd : cdHol h0 h1 1 d = 0 := by unfold cdHol; rw [c1, c3, if_pos rfl, if_pos rfl, i0]; simp [Nat.not_le.mpr c10, c7]
            refine lv_iconst (v := 0) hx hb dX5_holiday_55 (by decide) ?_
            refine pf hx hb hts hown hE hS pkX5_71 rfl hO hM.2.1.2 rfl rfl (Nat.le_of_ble_eq_true rfl) dX5_holiday_56 (fun H1 L1 hO1 hz1 hq1 hE hS => ?_)
            have hO : OB E 6 [.int 0, .ref (ad 1), .ref (ad 2), .ref (ad 3), .ref (ad 4), .int (sc 5), .int (sc 6), .ref (ad 7), .ref (ad 8), .ref (ad 9), .ref (ad 10), .ref (ad 11), .ref (ad 12), .ref (ad 13), .ref (ad 14), .ref (ad 15), .ref (ad 16), .int (sc 17), .ref (ad 18), .ref (ad 19), .ref (ad 20), .ref (ad 21), .ref (ad 22), .ref (ad 23)] x H1 := hO1
            have hF := hF.put hz1 hq1 (fun _ => ⟨by rw [hM.2.1.1], by rw [hM.2.1.1]; exact Nat.zero_le _⟩)
            have hM := hM.put (sc' := (upd sc 0 0)) hO hq1
            have hI : MI (upd sc 0 0) ar h0 h1 fx ts B := hI
            refine lv_aload_n hx hb dX5_holiday_59 rfl (lv_at hl 0 rfl) ?_
            refine gf hx hb hts hown hE lkX5_71 hO rfl dX5_holiday_60 ?_
            refine lv_if_le (tgt := 68) hx hb dX5_holiday_63 (by decide) (fun c99 => ?_) (fun c99 => ?_)
            rotate_left
            · exact absurd (by decide) c99
            refine lv_aload_n hx hb dX5_holiday_68 rfl (lv_at hl 0 rfl) ?_
            refine gf hx hb hts hown hE lkX5_7 hO rfl dX5_holiday_69 ?_
            refine lv_sipush (v := 3001) hx hb dX5_holiday_72 (by decide) ?_
            refine lv_iload_n hx hb dX5_holiday_75 rfl (lv_at hl 1 rfl) ?_
            refine lv_imul hx hb dX5_holiday_76 ?_
            refine lv_iload_n hx hb dX5_holiday_77 rfl (lv_at hl 2 rfl) ?_
            refine lv_iadd hx hb dX5_holiday_78 ?_
            refine lv_iconst (v := 1) hx hb dX5_holiday_79 (by decide) ?_
            have hA1 : ZA E 6002 (ar 1) (ad 1) H1 := hM.1.2 1 rfl
            refine asZ hx hb hE hS hA1 (hM.2.2 1 rfl).2  hix (by omega) (by omega) (Or.inr rfl) dX5_holiday_80 (fun H2 L2 hO2 hz2 hq2 hE hS => ?_)
            have hA1 : ZA E 6002 (upd (ar 1) (3001 + j) 1) (ad 1) H2 := hO2
            have hF := hF.put hz2 hq2 (fun _ => ⟨by rw [(hM.2.2 1 rfl).1], by rw [(hM.2.2 1 rfl).1]; decide⟩)
            have hO := pk1 hO (hq2 x (hM.ne 1 rfl))
            have hM := hM.arr (k := 1) rfl hA1 hq2
            refine lv_aload_n hx hb dX5_holiday_81 rfl (lv_at hl 0 rfl) ?_
            refine gf hx hb hts hown hE lkX5_13 hO rfl dX5_holiday_82 ?_
            refine lv_iload_n hx hb dX5_holiday_85 rfl (lv_at hl 1 rfl) ?_
            refine lv_dup2_11 hx hb dX5_holiday_86 rfl rfl ?_
            have hA2 : IA E 2 ((upA ar 1 (upd (ar 1) (3001 + j) 1)) 2) (ad 2) H2 := hM.1.2 2 rfl
            refine aI hx hb hE hA2 (rfl : (1 : Int32) = nI 1) (show (1 : Nat) < 2 by decide) (by omega) h2 dX5_holiday_87 ?_
            refine lv_iconst (v := 1) hx hb dX5_holiday_88 (by decide) ?_
            refine lv_iadd hx hb dX5_holiday_89 ?_
            rw [show nI h1.length + 1 = nI (h1.length + 1) from nI_1 _]
            have hA2 : IA E 2 ((upA ar 1 (upd (ar 1) (3001 + j) 1)) 2) (ad 2) H2 := hM.1.2 2 rfl
            refine asI hx hb hE hS hA2 (hM.2.2 2 rfl).2  (rfl : (1 : Int32) = nI 1) (show (1 : Nat) < 2 by decide) (by omega) dX5_holiday_90 (fun H3 L3 hO3 hz3 hq3 hE hS => ?_)
            have hA2 : IA E 2 (upd ((upA ar 1 (upd (ar 1) (3001 + j) 1)) 2) 1 (nI (h1.length + 1))) (ad 2) H3 := hO3
            have hF := hF.put hz3 hq3 (fun _ => ⟨by rw [(hM.2.2 2 rfl).1], by rw [(hM.2.2 2 rfl).1]; decide⟩)
            have hO := pk1 hO (hq3 x (hM.ne 2 rfl))
            have hM := hM.arr (k := 2) rfl hA2 hq3
            refine lv_aload_n hx hb dX5_holiday_91 rfl (lv_at hl 0 rfl) ?_
            refine gf hx hb hts hown hE lkX5_13 hO rfl dX5_holiday_92 ?_
            refine lv_iload_n hx hb dX5_holiday_95 rfl (lv_at hl 1 rfl) ?_
            have hA2 : IA E 2 ((upA (upA ar 1 (upd (ar 1) (3001 + j) 1)) 2 (upd ((upA ar 1 (upd (ar 1) (3001 + j) 1)) 2) 1 (nI (h1.length + 1)))) 2) (ad 2) H3 := hM.1.2 2 rfl
            refine aI hx hb hE hA2 (rfl : (1 : Int32) = nI 1) (show (1 : Nat) < 2 by decide) (by omega) (by show upd (ar 2) 1 (nI (h1.length + 1)) 1 = _; exact pk_us) dX5_holiday_96 ?_
            have hIh := hI.hol1 (v := 1) hj
            rw [← ej] at hIh
            exact cI hx hb hr hlk hB hS (by omega) (by omega) (⟨by rw [hcd, i0]; rfl, Or.inr ⟨hcd, by rw [i1, i2]; exact ⟨⟨(upd sc 0 0), ad, (upA (upA ar 1 (upd (ar 1) (3001 + j) 1)) 2 (upd ((upA ar 1 (upd (ar 1) (3001 + j) 1)) 2) 1 (nI (h1.length + 1)))), hM, hIh, rfl⟩, hF, by omega⟩⟩⟩) dX5_holiday_97
          · have c10 : 20 ≤ h1.length := by
              have := (nI_eq (a := h1.length) (b := 20) (by omega) (by decide)).mp c9
              omega
            have hcd : cdHol h0 h1 1 d = 3 := by unfold cdHol; rw [c1, c3, if_pos rfl, if_pos rfl, i0]; simp [c10]
            refine lv_iconst (v := 3) hx hb dX5_holiday_51 (by decide) ?_
            refine lv_goto (tgt := 56) hx hb dX5_holiday_52 (by decide) ?_
            refine pf hx hb hts hown hE hS pkX5_71 rfl hO hM.2.1.2 rfl rfl (Nat.le_of_ble_eq_true rfl) dX5_holiday_56 (fun H1 L1 hO1 hz1 hq1 hE hS => ?_)
            have hO : OB E 6 [.int 3, .ref (ad 1), .ref (ad 2), .ref (ad 3), .ref (ad 4), .int (sc 5), .int (sc 6), .ref (ad 7), .ref (ad 8), .ref (ad 9), .ref (ad 10), .ref (ad 11), .ref (ad 12), .ref (ad 13), .ref (ad 14), .ref (ad 15), .ref (ad 16), .int (sc 17), .ref (ad 18), .ref (ad 19), .ref (ad 20), .ref (ad 21), .ref (ad 22), .ref (ad 23)] x H1 := hO1
            have hF := hF.put hz1 hq1 (fun _ => ⟨by rw [hM.2.1.1], by rw [hM.2.1.1]; exact Nat.zero_le _⟩)
            have hM := hM.put (sc' := (upd sc 0 3)) hO hq1
            have hI : MI (upd sc 0 3) ar h0 h1 fx ts B := hI
            refine lv_aload_n hx hb dX5_holiday_59 rfl (lv_at hl 0 rfl) ?_
            refine gf hx hb hts hown hE lkX5_71 hO rfl dX5_holiday_60 ?_
            refine lv_if_le (tgt := 68) hx hb dX5_holiday_63 (by decide) (fun c99 => ?_) (fun c99 => ?_)
            · exact absurd c99 (by decide)
            refine lv_iconst (v := 0) hx hb dX5_holiday_66 (by decide) ?_
            exact cI hx hb hr hlk hB hS (by omega) (by omega) (⟨by rw [hcd]; rfl, Or.inl ⟨by rw [hcd]; decide, by rw [hcd]; exact ⟨⟨(upd sc 0 3), ad, ar, hM, hI, rfl⟩, hF, by omega⟩⟩⟩) dX5_holiday_67

set_option maxRecDepth 100000 in
set_option maxHeartbeats 4000000 in
/-- trade -/
theorem c_mtrd (E : ET) (ow : Nat → Nat × Nat) (x : Nat) (sc : Nat → Int32) (ad : Nat → Nat) (ar : Nat → Nat → Int32) (h0 h1 fx : Dy) (ts : List TR) (B : BK) (pa lo py fi fs le pe : Int32) (H : Heap) (hM : MR E ow x sc ad ar H) (hI : MI sc ar h0 h1 fx ts B) (hV : SV h0 h1 fx ts) (hpy : py = 0 ∨ py = 1) : Con E yX5_trade cX5_trade 9 (some FieldType.int) 4 0 0 [.ref x, .int pa, .int lo, .int py, .int fi, .int fs, .int le, .int pe] H (o1 (some (.int (if cdTrd ts pa lo fi fs le pe = 0 then (nI ts.length) else 0))) (fun H' => (¬ cdTrd ts pa lo fi fs le pe = 0 ∧ MO E ow x h0 h1 fx ts B (cdTrd ts pa lo fi fs le pe) H H') ∨ (cdTrd ts pa lo fi fs le pe = 0 ∧ MO E ow x h0 h1 fx (ts ++ [(mkT pa lo py fi fs le pe, [], [])]) B 0 H H'))) := by
  refine Con.of (C := RX5) rfl (by decide +kernel) (Nat.le_of_ble_eq_true rfl) ?_
  intro p e s m below meth co ls hx hb hr hlk hml hown hts hin hE hH hS hl
  have hl : lv_has ls 9 [(0, .ref x), (1, .int pa), (2, .int lo), (3, .int py), (4, .int fi), (5, .int fs), (6, .int le), (7, .int pe)] := hl
  have hB : eB E ≤ s.heap.size := by rw [hH]; exact hE.2.1
  have hO := hM.1.1
  have htn := hV.tn
  have hn6 := hI.2.2.2.2.1
  have hF : FR (fun z => (ow z).1 = 4 ∧ (ow z).2 ≤ 23) H H := FR.rf
  refine lv_iload_n hx hb dX5_trade_0 rfl (lv_at hl 2 rfl) ?_
  refine lv_iconst (v := 1) hx hb dX5_trade_1 (by decide) ?_
  refine lv_sipush (v := 1000) hx hb dX5_trade_2 (by decide) ?_
  refine pS hx hb hml hts hown hE kwX5_75 (c_in E lo 1 1000 H) (Nat.le_of_ble_eq_true rfl) rfl hl.1 rfl (Nat.le_of_ble_eq_true rfl) (by omega) (by omega) dX5_trade_5 ?_
  cases d0 : inB lo 1 1000 with
  | false =>
    refine lv_if_eq (tgt := 64) hx hb dX5_trade_8 (by decide) (fun e0 => ?_) (fun e0 => ?_)
    rotate_left
    · exact absurd (by decide) e0
    have hall : (inB lo 1 1000 && (inB fi (-500) 2000 && (inB fs 0 1000 && (inB le 5 180 && inB pe 1 10)))) = false := by rw [d0]; rfl
    refine lv_iconst (v := 0) hx hb dX5_trade_64 (by decide) ?_
    refine lv_istore (lv' := [(8, .int 0), (0, .ref x), (1, .int pa), (2, .int lo), (3, .int py), (4, .int fi), (5, .int fs), (6, .int le), (7, .int pe)]) hx hb dX5_trade_65 hl (by decide) rfl (fun ls hl => ?_)
    refine lv_aload_n hx hb dX5_trade_67 rfl (lv_at hl 1 rfl) ?_
    refine lv_iload_n hx hb dX5_trade_68 rfl (lv_at hl 2 rfl) ?_
    refine pS hx hb hml hts hown hE kwX5_105 (c_isParty E pa H) (Nat.le_of_ble_eq_true rfl) rfl hl.1 rfl (Nat.le_of_ble_eq_true rfl) (by omega) (by omega) dX5_trade_69 ?_
    cases c3 : inB pa 0 3 with
    | false =>
      refine lv_if_ne (tgt := 79) hx hb dX5_trade_72 (by decide) (fun c4 => ?_) (fun c4 => ?_)
      · exact absurd (by decide) c4
      have hcd : cdTrd ts pa lo fi fs le pe = 1 := by unfold cdTrd; rw [c3]; rfl
      refine lv_iconst (v := 1) hx hb dX5_trade_75 (by decide) ?_
      refine lv_goto (tgt := 102) hx hb dX5_trade_76 (by decide) ?_
      refine pf hx hb hts hown hE hS pkX5_71 rfl hO hM.2.1.2 rfl rfl (Nat.le_of_ble_eq_true rfl) dX5_trade_102 (fun H1 L1 hO1 hz1 hq1 hE hS => ?_)
      have hO : OB E 6 [.int 1, .ref (ad 1), .ref (ad 2), .ref (ad 3), .ref (ad 4), .int (sc 5), .int (sc 6), .ref (ad 7), .ref (ad 8), .ref (ad 9), .ref (ad 10), .ref (ad 11), .ref (ad 12), .ref (ad 13), .ref (ad 14), .ref (ad 15), .ref (ad 16), .int (sc 17), .ref (ad 18), .ref (ad 19), .ref (ad 20), .ref (ad 21), .ref (ad 22), .ref (ad 23)] x H1 := hO1
      have hF := hF.put hz1 hq1 (fun _ => ⟨by rw [hM.2.1.1], by rw [hM.2.1.1]; exact Nat.zero_le _⟩)
      have hM := hM.put (sc' := (upd sc 0 1)) hO hq1
      have hI : MI (upd sc 0 1) ar h0 h1 fx ts B := hI
      refine lv_aload_n hx hb dX5_trade_105 rfl (lv_at hl 1 rfl) ?_
      refine gf hx hb hts hown hE lkX5_71 hO rfl dX5_trade_106 ?_
      refine lv_if_le (tgt := 114) hx hb dX5_trade_109 (by decide) (fun c99 => ?_) (fun c99 => ?_)
      · exact absurd c99 (by decide)
      refine lv_iconst (v := 0) hx hb dX5_trade_112 (by decide) ?_
      exact cI hx hb hr hlk hB hS (by omega) (by omega) (⟨by rw [hcd]; rfl, Or.inl ⟨by rw [hcd]; decide, by rw [hcd]; exact ⟨⟨(upd sc 0 1), ad, ar, hM, hI, rfl⟩, hF, by omega⟩⟩⟩) dX5_trade_113
    | true =>
      refine lv_if_ne (tgt := 79) hx hb dX5_trade_72 (by decide) (fun c4 => ?_) (fun c4 => ?_)
      rotate_left
      · exact absurd c4 (by decide)
      refine lv_iload hx hb dX5_trade_79 (lv_at hl 0 rfl) ?_
      refine lv_if_ne (tgt := 88) hx hb dX5_trade_81 (by decide) (fun c5 => ?_) (fun c5 => ?_)
      · exact absurd (by decide) c5
      have hcd : cdTrd ts pa lo fi fs le pe = 2 := by unfold cdTrd; rw [c3, hall]; rfl
      refine lv_iconst (v := 2) hx hb dX5_trade_84 (by decide) ?_
      refine lv_goto (tgt := 102) hx hb dX5_trade_85 (by decide) ?_
      refine pf hx hb hts hown hE hS pkX5_71 rfl hO hM.2.1.2 rfl rfl (Nat.le_of_ble_eq_true rfl) dX5_trade_102 (fun H1 L1 hO1 hz1 hq1 hE hS => ?_)
      have hO : OB E 6 [.int 2, .ref (ad 1), .ref (ad 2), .ref (ad 3), .ref (ad 4), .int (sc 5), .int (sc 6), .ref (ad 7), .ref (ad 8), .ref (ad 9), .ref (ad 10), .ref (ad 11), .ref (ad 12), .ref (ad 13), .ref (ad 14), .ref (ad 15), .ref (ad 16), .int (sc 17), .ref (ad 18), .ref (ad 19), .ref (ad 20), .ref (ad 21), .ref (ad 22), .ref (ad 23)] x H1 := hO1
      have hF := hF.put hz1 hq1 (fun _ => ⟨by rw [hM.2.1.1], by rw [hM.2.1.1]; exact Nat.zero_le _⟩)
      have hM := hM.put (sc' := (upd sc 0 2)) hO hq1
      have hI : MI (upd sc 0 2) ar h0 h1 fx ts B := hI
      refine lv_aload_n hx hb dX5_trade_105 rfl (lv_at hl 1 rfl) ?_
      refine gf hx hb hts hown hE lkX5_71 hO rfl dX5_trade_106 ?_
      refine lv_if_le (tgt := 114) hx hb dX5_trade_109 (by decide) (fun c99 => ?_) (fun c99 => ?_)
      · exact absurd c99 (by decide)
      refine lv_iconst (v := 0) hx hb dX5_trade_112 (by decide) ?_
      exact cI hx hb hr hlk hB hS (by omega) (by omega) (⟨by rw [hcd]; rfl, Or.inl ⟨by rw [hcd]; decide, by rw [hcd]; exact ⟨⟨(upd sc 0 2), ad, ar, hM, hI, rfl⟩, hF, by omega⟩⟩⟩) dX5_trade_113
  | true =>
    refine lv_if_eq (tgt := 64) hx hb dX5_trade_8 (by decide) (fun e0 => ?_) (fun e0 => ?_)
    · exact absurd e0 (by decide)
    refine lv_iload hx hb dX5_trade_11 (lv_at hl 4 rfl) ?_
    refine lv_sipush (v := (-500)) hx hb dX5_trade_13 (by decide) ?_
    refine lv_sipush (v := 2000) hx hb dX5_trade_16 (by decide) ?_
    refine pS hx hb hml hts hown hE kwX5_75 (c_in E fi (-500) 2000 H) (Nat.le_of_ble_eq_true rfl) rfl hl.1 rfl (Nat.le_of_ble_eq_true rfl) (by omega) (by omega) dX5_trade_19 ?_
    cases d1 : inB fi (-500) 2000 with
    | false =>
      refine lv_if_eq (tgt := 64) hx hb dX5_trade_22 (by decide) (fun e1 => ?_) (fun e1 => ?_)
      rotate_left
      · exact absurd (by decide) e1
      have hall : (inB lo 1 1000 && (inB fi (-500) 2000 && (inB fs 0 1000 && (inB le 5 180 && inB pe 1 10)))) = false := by rw [d0, d1]; rfl
      refine lv_iconst (v := 0) hx hb dX5_trade_64 (by decide) ?_
      refine lv_istore (lv' := [(8, .int 0), (0, .ref x), (1, .int pa), (2, .int lo), (3, .int py), (4, .int fi), (5, .int fs), (6, .int le), (7, .int pe)]) hx hb dX5_trade_65 hl (by decide) rfl (fun ls hl => ?_)
      refine lv_aload_n hx hb dX5_trade_67 rfl (lv_at hl 1 rfl) ?_
      refine lv_iload_n hx hb dX5_trade_68 rfl (lv_at hl 2 rfl) ?_
      refine pS hx hb hml hts hown hE kwX5_105 (c_isParty E pa H) (Nat.le_of_ble_eq_true rfl) rfl hl.1 rfl (Nat.le_of_ble_eq_true rfl) (by omega) (by omega) dX5_trade_69 ?_
      cases c3 : inB pa 0 3 with
      | false =>
        refine lv_if_ne (tgt := 79) hx hb dX5_trade_72 (by decide) (fun c4 => ?_) (fun c4 => ?_)
        · exact absurd (by decide) c4
        have hcd : cdTrd ts pa lo fi fs le pe = 1 := by unfold cdTrd; rw [c3]; rfl
        refine lv_iconst (v := 1) hx hb dX5_trade_75 (by decide) ?_
        refine lv_goto (tgt := 102) hx hb dX5_trade_76 (by decide) ?_
        refine pf hx hb hts hown hE hS pkX5_71 rfl hO hM.2.1.2 rfl rfl (Nat.le_of_ble_eq_true rfl) dX5_trade_102 (fun H1 L1 hO1 hz1 hq1 hE hS => ?_)
        have hO : OB E 6 [.int 1, .ref (ad 1), .ref (ad 2), .ref (ad 3), .ref (ad 4), .int (sc 5), .int (sc 6), .ref (ad 7), .ref (ad 8), .ref (ad 9), .ref (ad 10), .ref (ad 11), .ref (ad 12), .ref (ad 13), .ref (ad 14), .ref (ad 15), .ref (ad 16), .int (sc 17), .ref (ad 18), .ref (ad 19), .ref (ad 20), .ref (ad 21), .ref (ad 22), .ref (ad 23)] x H1 := hO1
        have hF := hF.put hz1 hq1 (fun _ => ⟨by rw [hM.2.1.1], by rw [hM.2.1.1]; exact Nat.zero_le _⟩)
        have hM := hM.put (sc' := (upd sc 0 1)) hO hq1
        have hI : MI (upd sc 0 1) ar h0 h1 fx ts B := hI
        refine lv_aload_n hx hb dX5_trade_105 rfl (lv_at hl 1 rfl) ?_
        refine gf hx hb hts hown hE lkX5_71 hO rfl dX5_trade_106 ?_
        refine lv_if_le (tgt := 114) hx hb dX5_trade_109 (by decide) (fun c99 => ?_) (fun c99 => ?_)
        · exact absurd c99 (by decide)
        refine lv_iconst (v := 0) hx hb dX5_trade_112 (by decide) ?_
        exact cI hx hb hr hlk hB hS (by omega) (by omega) (⟨by rw [hcd]; rfl, Or.inl ⟨by rw [hcd]; decide, by rw [hcd]; exact ⟨⟨(upd sc 0 1), ad, ar, hM, hI, rfl⟩, hF, by omega⟩⟩⟩) dX5_trade_113
      | true =>
        refine lv_if_ne (tgt := 79) hx hb dX5_trade_72 (by decide) (fun c4 => ?_) (fun c4 => ?_)
        rotate_left
        · exact absurd c4 (by decide)
        refine lv_iload hx hb dX5_trade_79 (lv_at hl 0 rfl) ?_
        refine lv_if_ne (tgt := 88) hx hb dX5_trade_81 (by decide) (fun c5 => ?_) (fun c5 => ?_)
        · exact absurd (by decide) c5
        have hcd : cdTrd ts pa lo fi fs le pe = 2 := by unfold cdTrd; rw [c3, hall]; rfl
        refine lv_iconst (v := 2) hx hb dX5_trade_84 (by decide) ?_
        refine lv_goto (tgt := 102) hx hb dX5_trade_85 (by decide) ?_
        refine pf hx hb hts hown hE hS pkX5_71 rfl hO hM.2.1.2 rfl rfl (Nat.le_of_ble_eq_true rfl) dX5_trade_102 (fun H1 L1 hO1 hz1 hq1 hE hS => ?_)
        have hO : OB E 6 [.int 2, .ref (ad 1), .ref (ad 2), .ref (ad 3), .ref (ad 4), .int (sc 5), .int (sc 6), .ref (ad 7), .ref (ad 8), .ref (ad 9), .ref (ad 10), .ref (ad 11), .ref (ad 12), .ref (ad 13), .ref (ad 14), .ref (ad 15), .ref (ad 16), .int (sc 17), .ref (ad 18), .ref (ad 19), .ref (ad 20), .ref (ad 21), .ref (ad 22), .ref (ad 23)] x H1 := hO1
        have hF := hF.put hz1 hq1 (fun _ => ⟨by rw [hM.2.1.1], by rw [hM.2.1.1]; exact Nat.zero_le _⟩)
        have hM := hM.put (sc' := (upd sc 0 2)) hO hq1
        have hI : MI (upd sc 0 2) ar h0 h1 fx ts B := hI
        refine lv_aload_n hx hb dX5_trade_105 rfl (lv_at hl 1 rfl) ?_
        refine gf hx hb hts hown hE lkX5_71 hO rfl dX5_trade_106 ?_
        refine lv_if_le (tgt := 114) hx hb dX5_trade_109 (by decide) (fun c99 => ?_) (fun c99 => ?_)
        · exact absurd c99 (by decide)
        refine lv_iconst (v := 0) hx hb dX5_trade_112 (by decide) ?_
        exact cI hx hb hr hlk hB hS (by omega) (by omega) (⟨by rw [hcd]; rfl, Or.inl ⟨by rw [hcd]; decide, by rw [hcd]; exact ⟨⟨(upd sc 0 2), ad, ar, hM, hI, rfl⟩, hF, by omega⟩⟩⟩) dX5_trade_113
    | true =>
      refine lv_if_eq (tgt := 64) hx hb dX5_trade_22 (by decide) (fun e1 => ?_) (fun e1 => ?_)
      · exact absurd e1 (by decide)
      refine lv_iload hx hb dX5_trade_25 (lv_at hl 5 rfl) ?_
      refine lv_iconst (v := 0) hx hb dX5_trade_27 (by decide) ?_
      refine lv_sipush (v := 1000) hx hb dX5_trade_28 (by decide) ?_
      refine pS hx hb hml hts hown hE kwX5_75 (c_in E fs 0 1000 H) (Nat.le_of_ble_eq_true rfl) rfl hl.1 rfl (Nat.le_of_ble_eq_true rfl) (by omega) (by omega) dX5_trade_31 ?_
      cases d2 : inB fs 0 1000 with
      | false =>
        refine lv_if_eq (tgt := 64) hx hb dX5_trade_34 (by decide) (fun e2 => ?_) (fun e2 => ?_)
        rotate_left
        · exact absurd (by decide) e2
        have hall : (inB lo 1 1000 && (inB fi (-500) 2000 && (inB fs 0 1000 && (inB le 5 180 && inB pe 1 10)))) = false := by rw [d0, d1, d2]; rfl
        refine lv_iconst (v := 0) hx hb dX5_trade_64 (by decide) ?_
        refine lv_istore (lv' := [(8, .int 0), (0, .ref x), (1, .int pa), (2, .int lo), (3, .int py), (4, .int fi), (5, .int fs), (6, .int le), (7, .int pe)]) hx hb dX5_trade_65 hl (by decide) rfl (fun ls hl => ?_)
        refine lv_aload_n hx hb dX5_trade_67 rfl (lv_at hl 1 rfl) ?_
        refine lv_iload_n hx hb dX5_trade_68 rfl (lv_at hl 2 rfl) ?_
        refine pS hx hb hml hts hown hE kwX5_105 (c_isParty E pa H) (Nat.le_of_ble_eq_true rfl) rfl hl.1 rfl (Nat.le_of_ble_eq_true rfl) (by omega) (by omega) dX5_trade_69 ?_
        cases c3 : inB pa 0 3 with
        | false =>
          refine lv_if_ne (tgt := 79) hx hb dX5_trade_72 (by decide) (fun c4 => ?_) (fun c4 => ?_)
          · exact absurd (by decide) c4
          have hcd : cdTrd ts pa lo fi fs le pe = 1 := by unfold cdTrd; rw [c3]; rfl
          refine lv_iconst (v := 1) hx hb dX5_trade_75 (by decide) ?_
          refine lv_goto (tgt := 102) hx hb dX5_trade_76 (by decide) ?_
          refine pf hx hb hts hown hE hS pkX5_71 rfl hO hM.2.1.2 rfl rfl (Nat.le_of_ble_eq_true rfl) dX5_trade_102 (fun H1 L1 hO1 hz1 hq1 hE hS => ?_)
          have hO : OB E 6 [.int 1, .ref (ad 1), .ref (ad 2), .ref (ad 3), .ref (ad 4), .int (sc 5), .int (sc 6), .ref (ad 7), .ref (ad 8), .ref (ad 9), .ref (ad 10), .ref (ad 11), .ref (ad 12), .ref (ad 13), .ref (ad 14), .ref (ad 15), .ref (ad 16), .int (sc 17), .ref (ad 18), .ref (ad 19), .ref (ad 20), .ref (ad 21), .ref (ad 22), .ref (ad 23)] x H1 := hO1
          have hF := hF.put hz1 hq1 (fun _ => ⟨by rw [hM.2.1.1], by rw [hM.2.1.1]; exact Nat.zero_le _⟩)
          have hM := hM.put (sc' := (upd sc 0 1)) hO hq1
          have hI : MI (upd sc 0 1) ar h0 h1 fx ts B := hI
          refine lv_aload_n hx hb dX5_trade_105 rfl (lv_at hl 1 rfl) ?_
          refine gf hx hb hts hown hE lkX5_71 hO rfl dX5_trade_106 ?_
          refine lv_if_le (tgt := 114) hx hb dX5_trade_109 (by decide) (fun c99 => ?_) (fun c99 => ?_)
          · exact absurd c99 (by decide)
          refine lv_iconst (v := 0) hx hb dX5_trade_112 (by decide) ?_
          exact cI hx hb hr hlk hB hS (by omega) (by omega) (⟨by rw [hcd]; rfl, Or.inl ⟨by rw [hcd]; decide, by rw [hcd]; exact ⟨⟨(upd sc 0 1), ad, ar, hM, hI, rfl⟩, hF, by omega⟩⟩⟩) dX5_trade_113
        | true =>
          refine lv_if_ne (tgt := 79) hx hb dX5_trade_72 (by decide) (fun c4 => ?_) (fun c4 => ?_)
          rotate_left
          · exact absurd c4 (by decide)
          refine lv_iload hx hb dX5_trade_79 (lv_at hl 0 rfl) ?_
          refine lv_if_ne (tgt := 88) hx hb dX5_trade_81 (by decide) (fun c5 => ?_) (fun c5 => ?_)
          · exact absurd (by decide) c5
          have hcd : cdTrd ts pa lo fi fs le pe = 2 := by unfold cdTrd; rw [c3, hall]; rfl
          refine lv_iconst (v := 2) hx hb dX5_trade_84 (by decide) ?_
          refine lv_goto (tgt := 102) hx hb dX5_trade_85 (by decide) ?_
          refine pf hx hb hts hown hE hS pkX5_71 rfl hO hM.2.1.2 rfl rfl (Nat.le_of_ble_eq_true rfl) dX5_trade_102 (fun H1 L1 hO1 hz1 hq1 hE hS => ?_)
          have hO : OB E 6 [.int 2, .ref (ad 1), .ref (ad 2), .ref (ad 3), .ref (ad 4), .int (sc 5), .int (sc 6), .ref (ad 7), .ref (ad 8), .ref (ad 9), .ref (ad 10), .ref (ad 11), .ref (ad 12), .ref (ad 13), .ref (ad 14), .ref (ad 15), .ref (ad 16), .int (sc 17), .ref (ad 18), .ref (ad 19), .ref (ad 20), .ref (ad 21), .ref (ad 22), .ref (ad 23)] x H1 := hO1
          have hF := hF.put hz1 hq1 (fun _ => ⟨by rw [hM.2.1.1], by rw [hM.2.1.1]; exact Nat.zero_le _⟩)
          have hM := hM.put (sc' := (upd sc 0 2)) hO hq1
          have hI : MI (upd sc 0 2) ar h0 h1 fx ts B := hI
          refine lv_aload_n hx hb dX5_trade_105 rfl (lv_at hl 1 rfl) ?_
          refine gf hx hb hts hown hE lkX5_71 hO rfl dX5_trade_106 ?_
          refine lv_if_le (tgt := 114) hx hb dX5_trade_109 (by decide) (fun c99 => ?_) (fun c99 => ?_)
          · exact absurd c99 (by decide)
          refine lv_iconst (v := 0) hx hb dX5_trade_112 (by decide) ?_
          exact cI hx hb hr hlk hB hS (by omega) (by omega) (⟨by rw [hcd]; rfl, Or.inl ⟨by rw [hcd]; decide, by rw [hcd]; exact ⟨⟨(upd sc 0 2), ad, ar, hM, hI, rfl⟩, hF, by omega⟩⟩⟩) dX5_trade_113
      | true =>
        refine lv_if_eq (tgt := 64) hx hb dX5_trade_34 (by decide) (fun e2 => ?_) (fun e2 => ?_)
        · exact absurd e2 (by decide)
        refine lv_iload hx hb dX5_trade_37 (lv_at hl 6 rfl) ?_
        refine lv_iconst (v := 5) hx hb dX5_trade_39 (by decide) ?_
        refine lv_sipush (v := 180) hx hb dX5_trade_40 (by decide) ?_
        refine pS hx hb hml hts hown hE kwX5_75 (c_in E le 5 180 H) (Nat.le_of_ble_eq_true rfl) rfl hl.1 rfl (Nat.le_of_ble_eq_true rfl) (by omega) (by omega) dX5_trade_43 ?_
        cases d3 : inB le 5 180 with
        | false =>
          refine lv_if_eq (tgt := 64) hx hb dX5_trade_46 (by decide) (fun e3 => ?_) (fun e3 => ?_)
          rotate_left
          · exact absurd (by decide) e3
          have hall : (inB lo 1 1000 && (inB fi (-500) 2000 && (inB fs 0 1000 && (inB le 5 180 && inB pe 1 10)))) = false := by rw [d0, d1, d2, d3]; rfl
          refine lv_iconst (v := 0) hx hb dX5_trade_64 (by decide) ?_
          refine lv_istore (lv' := [(8, .int 0), (0, .ref x), (1, .int pa), (2, .int lo), (3, .int py), (4, .int fi), (5, .int fs), (6, .int le), (7, .int pe)]) hx hb dX5_trade_65 hl (by decide) rfl (fun ls hl => ?_)
          refine lv_aload_n hx hb dX5_trade_67 rfl (lv_at hl 1 rfl) ?_
          refine lv_iload_n hx hb dX5_trade_68 rfl (lv_at hl 2 rfl) ?_
          refine pS hx hb hml hts hown hE kwX5_105 (c_isParty E pa H) (Nat.le_of_ble_eq_true rfl) rfl hl.1 rfl (Nat.le_of_ble_eq_true rfl) (by omega) (by omega) dX5_trade_69 ?_
          cases c3 : inB pa 0 3 with
          | false =>
            refine lv_if_ne (tgt := 79) hx hb dX5_trade_72 (by decide) (fun c4 => ?_) (fun c4 => ?_)
            · exact absurd (by decide) c4
            have hcd : cdTrd ts pa lo fi fs le pe = 1 := by unfold cdTrd; rw [c3]; rfl
            refine lv_iconst (v := 1) hx hb dX5_trade_75 (by decide) ?_
            refine lv_goto (tgt := 102) hx hb dX5_trade_76 (by decide) ?_
            refine pf hx hb hts hown hE hS pkX5_71 rfl hO hM.2.1.2 rfl rfl (Nat.le_of_ble_eq_true rfl) dX5_trade_102 (fun H1 L1 hO1 hz1 hq1 hE hS => ?_)
            have hO : OB E 6 [.int 1, .ref (ad 1), .ref (ad 2), .ref (ad 3), .ref (ad 4), .int (sc 5), .int (sc 6), .ref (ad 7), .ref (ad 8), .ref (ad 9), .ref (ad 10), .ref (ad 11), .ref (ad 12), .ref (ad 13), .ref (ad 14), .ref (ad 15), .ref (ad 16), .int (sc 17), .ref (ad 18), .ref (ad 19), .ref (ad 20), .ref (ad 21), .ref (ad 22), .ref (ad 23)] x H1 := hO1
            have hF := hF.put hz1 hq1 (fun _ => ⟨by rw [hM.2.1.1], by rw [hM.2.1.1]; exact Nat.zero_le _⟩)
            have hM := hM.put (sc' := (upd sc 0 1)) hO hq1
            have hI : MI (upd sc 0 1) ar h0 h1 fx ts B := hI
            refine lv_aload_n hx hb dX5_trade_105 rfl (lv_at hl 1 rfl) ?_
            refine gf hx hb hts hown hE lkX5_71 hO rfl dX5_trade_106 ?_
            refine lv_if_le (tgt := 114) hx hb dX5_trade_109 (by decide) (fun c99 => ?_) (fun c99 => ?_)
            · exact absurd c99 (by decide)
            refine lv_iconst (v := 0) hx hb dX5_trade_112 (by decide) ?_
            exact cI hx hb hr hlk hB hS (by omega) (by omega) (⟨by rw [hcd]; rfl, Or.inl ⟨by rw [hcd]; decide, by rw [hcd]; exact ⟨⟨(upd sc 0 1), ad, ar, hM, hI, rfl⟩, hF, by omega⟩⟩⟩) dX5_trade_113
          | true =>
            refine lv_if_ne (tgt := 79) hx hb dX5_trade_72 (by decide) (fun c4 => ?_) (fun c4 => ?_)
            rotate_left
            · exact absurd c4 (by decide)
            refine lv_iload hx hb dX5_trade_79 (lv_at hl 0 rfl) ?_
            refine lv_if_ne (tgt := 88) hx hb dX5_trade_81 (by decide) (fun c5 => ?_) (fun c5 => ?_)
            · exact absurd (by decide) c5
            have hcd : cdTrd ts pa lo fi fs le pe = 2 := by unfold cdTrd; rw [c3, hall]; rfl
            refine lv_iconst (v := 2) hx hb dX5_trade_84 (by decide) ?_
            refine lv_goto (tgt := 102) hx hb dX5_trade_85 (by decide) ?_
            refine pf hx hb hts hown hE hS pkX5_71 rfl hO hM.2.1.2 rfl rfl (Nat.le_of_ble_eq_true rfl) dX5_trade_102 (fun H1 L1 hO1 hz1 hq1 hE hS => ?_)
            have hO : OB E 6 [.int 2, .ref (ad 1), .ref (ad 2), .ref (ad 3), .ref (ad 4), .int (sc 5), .int (sc 6), .ref (ad 7), .ref (ad 8), .ref (ad 9), .ref (ad 10), .ref (ad 11), .ref (ad 12), .ref (ad 13), .ref (ad 14), .ref (ad 15), .ref (ad 16), .int (sc 17), .ref (ad 18), .ref (ad 19), .ref (ad 20), .ref (ad 21), .ref (ad 22), .ref (ad 23)] x H1 := hO1
            have hF := hF.put hz1 hq1 (fun _ => ⟨by rw [hM.2.1.1], by rw [hM.2.1.1]; exact Nat.zero_le _⟩)
            have hM := hM.put (sc' := (upd sc 0 2)) hO hq1
            have hI : MI (upd sc 0 2) ar h0 h1 fx ts B := hI
            refine lv_aload_n hx hb dX5_trade_105 rfl (lv_at hl 1 rfl) ?_
            refine gf hx hb hts hown hE lkX5_71 hO rfl dX5_trade_106 ?_
            refine lv_if_le (tgt := 114) hx hb dX5_trade_109 (by decide) (fun c99 => ?_) (fun c99 => ?_)
            · exact absurd c99 (by decide)
            refine lv_iconst (v := 0) hx hb dX5_trade_112 (by decide) ?_
            exact cI hx hb hr hlk hB hS (by omega) (by omega) (⟨by rw [hcd]; rfl, Or.inl ⟨by rw [hcd]; decide, by rw [hcd]; exact ⟨⟨(upd sc 0 2), ad, ar, hM, hI, rfl⟩, hF, by omega⟩⟩⟩) dX5_trade_113
        | true =>
          refine lv_if_eq (tgt := 64) hx hb dX5_trade_46 (by decide) (fun e3 => ?_) (fun e3 => ?_)
          · exact absurd e3 (by decide)
          refine lv_iload hx hb dX5_trade_49 (lv_at hl 7 rfl) ?_
          refine lv_iconst (v := 1) hx hb dX5_trade_51 (by decide) ?_
          refine lv_bipush (v := 10) hx hb dX5_trade_52 (by decide) ?_
          refine pS hx hb hml hts hown hE kwX5_75 (c_in E pe 1 10 H) (Nat.le_of_ble_eq_true rfl) rfl hl.1 rfl (Nat.le_of_ble_eq_true rfl) (by omega) (by omega) dX5_trade_54 ?_
          cases d4 : inB pe 1 10 with
          | false =>
            refine lv_if_eq (tgt := 64) hx hb dX5_trade_57 (by decide) (fun e4 => ?_) (fun e4 => ?_)
            rotate_left
            · exact absurd (by decide) e4
            have hall : (inB lo 1 1000 && (inB fi (-500) 2000 && (inB fs 0 1000 && (inB le 5 180 && inB pe 1 10)))) = false := by rw [d0, d1, d2, d3, d4]; rfl
            refine lv_iconst (v := 0) hx hb dX5_trade_64 (by decide) ?_
            refine lv_istore (lv' := [(8, .int 0), (0, .ref x), (1, .int pa), (2, .int lo), (3, .int py), (4, .int fi), (5, .int fs), (6, .int le), (7, .int pe)]) hx hb dX5_trade_65 hl (by decide) rfl (fun ls hl => ?_)
            refine lv_aload_n hx hb dX5_trade_67 rfl (lv_at hl 1 rfl) ?_
            refine lv_iload_n hx hb dX5_trade_68 rfl (lv_at hl 2 rfl) ?_
            refine pS hx hb hml hts hown hE kwX5_105 (c_isParty E pa H) (Nat.le_of_ble_eq_true rfl) rfl hl.1 rfl (Nat.le_of_ble_eq_true rfl) (by omega) (by omega) dX5_trade_69 ?_
            cases c3 : inB pa 0 3 with
            | false =>
              refine lv_if_ne (tgt := 79) hx hb dX5_trade_72 (by decide) (fun c4 => ?_) (fun c4 => ?_)
              · exact absurd (by decide) c4
              have hcd : cdTrd ts pa lo fi fs le pe = 1 := by unfold cdTrd; rw [c3]; rfl
              refine lv_iconst (v := 1) hx hb dX5_trade_75 (by decide) ?_
              refine lv_goto (tgt := 102) hx hb dX5_trade_76 (by decide) ?_
              refine pf hx hb hts hown hE hS pkX5_71 rfl hO hM.2.1.2 rfl rfl (Nat.le_of_ble_eq_true rfl) dX5_trade_102 (fun H1 L1 hO1 hz1 hq1 hE hS => ?_)
              have hO : OB E 6 [.int 1, .ref (ad 1), .ref (ad 2), .ref (ad 3), .ref (ad 4), .int (sc 5), .int (sc 6), .ref (ad 7), .ref (ad 8), .ref (ad 9), .ref (ad 10), .ref (ad 11), .ref (ad 12), .ref (ad 13), .ref (ad 14), .ref (ad 15), .ref (ad 16), .int (sc 17), .ref (ad 18), .ref (ad 19), .ref (ad 20), .ref (ad 21), .ref (ad 22), .ref (ad 23)] x H1 := hO1
              have hF := hF.put hz1 hq1 (fun _ => ⟨by rw [hM.2.1.1], by rw [hM.2.1.1]; exact Nat.zero_le _⟩)
              have hM := hM.put (sc' := (upd sc 0 1)) hO hq1
              have hI : MI (upd sc 0 1) ar h0 h1 fx ts B := hI
              refine lv_aload_n hx hb dX5_trade_105 rfl (lv_at hl 1 rfl) ?_
              refine gf hx hb hts hown hE lkX5_71 hO rfl dX5_trade_106 ?_
              refine lv_if_le (tgt := 114) hx hb dX5_trade_109 (by decide) (fun c99 => ?_) (fun c99 => ?_)
              · exact absurd c99 (by decide)
              refine lv_iconst (v := 0) hx hb dX5_trade_112 (by decide) ?_
              exact cI hx hb hr hlk hB hS (by omega) (by omega) (⟨by rw [hcd]; rfl, Or.inl ⟨by rw [hcd]; decide, by rw [hcd]; exact ⟨⟨(upd sc 0 1), ad, ar, hM, hI, rfl⟩, hF, by omega⟩⟩⟩) dX5_trade_113
            | true =>
              refine lv_if_ne (tgt := 79) hx hb dX5_trade_72 (by decide) (fun c4 => ?_) (fun c4 => ?_)
              rotate_left
              · exact absurd c4 (by decide)
              refine lv_iload hx hb dX5_trade_79 (lv_at hl 0 rfl) ?_
              refine lv_if_ne (tgt := 88) hx hb dX5_trade_81 (by decide) (fun c5 => ?_) (fun c5 => ?_)
              · exact absurd (by decide) c5
              have hcd : cdTrd ts pa lo fi fs le pe = 2 := by unfold cdTrd; rw [c3, hall]; rfl
              refine lv_iconst (v := 2) hx hb dX5_trade_84 (by decide) ?_
              refine lv_goto (tgt := 102) hx hb dX5_trade_85 (by decide) ?_
              refine pf hx hb hts hown hE hS pkX5_71 rfl hO hM.2.1.2 rfl rfl (Nat.le_of_ble_eq_true rfl) dX5_trade_102 (fun H1 L1 hO1 hz1 hq1 hE hS => ?_)
              have hO : OB E 6 [.int 2, .ref (ad 1), .ref (ad 2), .ref (ad 3), .ref (ad 4), .int (sc 5), .int (sc 6), .ref (ad 7), .ref (ad 8), .ref (ad 9), .ref (ad 10), .ref (ad 11), .ref (ad 12), .ref (ad 13), .ref (ad 14), .ref (ad 15), .ref (ad 16), .int (sc 17), .ref (ad 18), .ref (ad 19), .ref (ad 20), .ref (ad 21), .ref (ad 22), .ref (ad 23)] x H1 := hO1
              have hF := hF.put hz1 hq1 (fun _ => ⟨by rw [hM.2.1.1], by rw [hM.2.1.1]; exact Nat.zero_le _⟩)
              have hM := hM.put (sc' := (upd sc 0 2)) hO hq1
              have hI : MI (upd sc 0 2) ar h0 h1 fx ts B := hI
              refine lv_aload_n hx hb dX5_trade_105 rfl (lv_at hl 1 rfl) ?_
              refine gf hx hb hts hown hE lkX5_71 hO rfl dX5_trade_106 ?_
              refine lv_if_le (tgt := 114) hx hb dX5_trade_109 (by decide) (fun c99 => ?_) (fun c99 => ?_)
              · exact absurd c99 (by decide)
              refine lv_iconst (v := 0) hx hb dX5_trade_112 (by decide) ?_
              exact cI hx hb hr hlk hB hS (by omega) (by omega) (⟨by rw [hcd]; rfl, Or.inl ⟨by rw [hcd]; decide, by rw [hcd]; exact ⟨⟨(upd sc 0 2), ad, ar, hM, hI, rfl⟩, hF, by omega⟩⟩⟩) dX5_trade_113
          | true =>
            refine lv_if_eq (tgt := 64) hx hb dX5_trade_57 (by decide) (fun e4 => ?_) (fun e4 => ?_)
            · exact absurd e4 (by decide)
            have hall : (inB lo 1 1000 && (inB fi (-500) 2000 && (inB fs 0 1000 && (inB le 5 180 && inB pe 1 10)))) = true := by rw [d0, d1, d2, d3, d4]; rfl
            refine lv_iconst (v := 1) hx hb dX5_trade_60 (by decide) ?_
            refine lv_goto (tgt := 65) hx hb dX5_trade_61 (by decide) ?_
            refine lv_istore (lv' := [(8, .int 1), (0, .ref x), (1, .int pa), (2, .int lo), (3, .int py), (4, .int fi), (5, .int fs), (6, .int le), (7, .int pe)]) hx hb dX5_trade_65 hl (by decide) rfl (fun ls hl => ?_)
            refine lv_aload_n hx hb dX5_trade_67 rfl (lv_at hl 1 rfl) ?_
            refine lv_iload_n hx hb dX5_trade_68 rfl (lv_at hl 2 rfl) ?_
            refine pS hx hb hml hts hown hE kwX5_105 (c_isParty E pa H) (Nat.le_of_ble_eq_true rfl) rfl hl.1 rfl (Nat.le_of_ble_eq_true rfl) (by omega) (by omega) dX5_trade_69 ?_
            cases c3 : inB pa 0 3 with
            | false =>
              refine lv_if_ne (tgt := 79) hx hb dX5_trade_72 (by decide) (fun c4 => ?_) (fun c4 => ?_)
              · exact absurd (by decide) c4
              have hcd : cdTrd ts pa lo fi fs le pe = 1 := by unfold cdTrd; rw [c3]; rfl
              refine lv_iconst (v := 1) hx hb dX5_trade_75 (by decide) ?_
              refine lv_goto (tgt := 102) hx hb dX5_trade_76 (by decide) ?_
              refine pf hx hb hts hown hE hS pkX5_71 rfl hO hM.2.1.2 rfl rfl (Nat.le_of_ble_eq_true rfl) dX5_trade_102 (fun H1 L1 hO1 hz1 hq1 hE hS => ?_)
              have hO : OB E 6 [.int 1, .ref (ad 1), .ref (ad 2), .ref (ad 3), .ref (ad 4), .int (sc 5), .int (sc 6), .ref (ad 7), .ref (ad 8), .ref (ad 9), .ref (ad 10), .ref (ad 11), .ref (ad 12), .ref (ad 13), .ref (ad 14), .ref (ad 15), .ref (ad 16), .int (sc 17), .ref (ad 18), .ref (ad 19), .ref (ad 20), .ref (ad 21), .ref (ad 22), .ref (ad 23)] x H1 := hO1
              have hF := hF.put hz1 hq1 (fun _ => ⟨by rw [hM.2.1.1], by rw [hM.2.1.1]; exact Nat.zero_le _⟩)
              have hM := hM.put (sc' := (upd sc 0 1)) hO hq1
              have hI : MI (upd sc 0 1) ar h0 h1 fx ts B := hI
              refine lv_aload_n hx hb dX5_trade_105 rfl (lv_at hl 1 rfl) ?_
              refine gf hx hb hts hown hE lkX5_71 hO rfl dX5_trade_106 ?_
              refine lv_if_le (tgt := 114) hx hb dX5_trade_109 (by decide) (fun c99 => ?_) (fun c99 => ?_)
              · exact absurd c99 (by decide)
              refine lv_iconst (v := 0) hx hb dX5_trade_112 (by decide) ?_
              exact cI hx hb hr hlk hB hS (by omega) (by omega) (⟨by rw [hcd]; rfl, Or.inl ⟨by rw [hcd]; decide, by rw [hcd]; exact ⟨⟨(upd sc 0 1), ad, ar, hM, hI, rfl⟩, hF, by omega⟩⟩⟩) dX5_trade_113
            | true =>
              refine lv_if_ne (tgt := 79) hx hb dX5_trade_72 (by decide) (fun c4 => ?_) (fun c4 => ?_)
              rotate_left
              · exact absurd c4 (by decide)
              refine lv_iload hx hb dX5_trade_79 (lv_at hl 0 rfl) ?_
              refine lv_if_ne (tgt := 88) hx hb dX5_trade_81 (by decide) (fun c5 => ?_) (fun c5 => ?_)
              rotate_left
              · exact absurd c5 (by decide)
              refine lv_aload_n hx hb dX5_trade_88 rfl (lv_at hl 1 rfl) ?_
              refine gf hx hb hts hown hE lkX5_79 hO rfl dX5_trade_89 ?_
              refine lv_bipush (v := 10) hx hb dX5_trade_92 (by decide) ?_
              refine lv_icmp_ne (tgt := 101) hx hb dX5_trade_94 (by decide) (fun c9 => ?_) (fun c9 => ?_)
              · have c10 : ts.length < 10 := by
                  rcases Nat.lt_or_ge ts.length 10 with q9 | q9
                  · exact q9
                  · exact absurd (show sc 6 = 10 by rw [hn6, show ts.length = 10 by omega]; rfl) c9
                have hcd : cdTrd ts pa lo fi fs le pe = 0 := by unfold cdTrd; rw [c3, hall, if_pos rfl, if_pos rfl]; exact if_neg (Nat.not_le.mpr c10)
                refine lv_iconst (v := 0) hx hb dX5_trade_101 (by decide) ?_
                refine pf hx hb hts hown hE hS pkX5_71 rfl hO hM.2.1.2 rfl rfl (Nat.le_of_ble_eq_true rfl) dX5_trade_102 (fun H1 L1 hO1 hz1 hq1 hE hS => ?_)
                have hO : OB E 6 [.int 0, .ref (ad 1), .ref (ad 2), .ref (ad 3), .ref (ad 4), .int (sc 5), .int (sc 6), .ref (ad 7), .ref (ad 8), .ref (ad 9), .ref (ad 10), .ref (ad 11), .ref (ad 12), .ref (ad 13), .ref (ad 14), .ref (ad 15), .ref (ad 16), .int (sc 17), .ref (ad 18), .ref (ad 19), .ref (ad 20), .ref (ad 21), .ref (ad 22), .ref (ad 23)] x H1 := hO1
                have hF := hF.put hz1 hq1 (fun _ => ⟨by rw [hM.2.1.1], by rw [hM.2.1.1]; exact Nat.zero_le _⟩)
                have hM := hM.put (sc' := (upd sc 0 0)) hO hq1
                have hI : MI (upd sc 0 0) ar h0 h1 fx ts B := hI
                refine lv_aload_n hx hb dX5_trade_105 rfl (lv_at hl 1 rfl) ?_
                refine gf hx hb hts hown hE lkX5_71 hO rfl dX5_trade_106 ?_
                refine lv_if_le (tgt := 114) hx hb dX5_trade_109 (by decide) (fun c99 => ?_) (fun c99 => ?_)
                rotate_left
                · exact absurd (by decide) c99
                refine lv_aload_n hx hb dX5_trade_114 rfl (lv_at hl 1 rfl) ?_
                refine gf hx hb hts hown hE lkX5_23 hO rfl dX5_trade_115 ?_
                refine lv_aload_n hx hb dX5_trade_118 rfl (lv_at hl 1 rfl) ?_
                refine gf hx hb hts hown hE lkX5_79 hO rfl dX5_trade_119 ?_
                refine lv_iload_n hx hb dX5_trade_122 rfl (lv_at hl 2 rfl) ?_
                have hA7 : IA E 10 (ar 7) (ad 7) H1 := hM.1.2 7 rfl
                refine asI hx hb hE hS hA7 (hM.2.2 7 rfl).2  hn6 (by omega) (by omega) dX5_trade_123 (fun H2 L2 hO2 hz2 hq2 hE hS => ?_)
                have hA7 : IA E 10 (upd (ar 7) ts.length pa) (ad 7) H2 := hO2
                have hF := hF.put hz2 hq2 (fun _ => ⟨by rw [(hM.2.2 7 rfl).1], by rw [(hM.2.2 7 rfl).1]; decide⟩)
                have hO := pk1 hO (hq2 x (hM.ne 7 rfl))
                have hM := hM.arr (k := 7) rfl hA7 hq2
                refine lv_aload_n hx hb dX5_trade_124 rfl (lv_at hl 1 rfl) ?_
                refine gf hx hb hts hown hE lkX5_26 hO rfl dX5_trade_125 ?_
                refine lv_aload_n hx hb dX5_trade_128 rfl (lv_at hl 1 rfl) ?_
                refine gf hx hb hts hown hE lkX5_79 hO rfl dX5_trade_129 ?_
                refine lv_iload_n hx hb dX5_trade_132 rfl (lv_at hl 3 rfl) ?_
                have hA8 : IA E 10 ((upA ar 7 (upd (ar 7) ts.length pa)) 8) (ad 8) H2 := hM.1.2 8 rfl
                refine asI hx hb hE hS hA8 (hM.2.2 8 rfl).2  hn6 (by omega) (by omega) dX5_trade_133 (fun H3 L3 hO3 hz3 hq3 hE hS => ?_)
                have hA8 : IA E 10 (upd ((upA ar 7 (upd (ar 7) ts.length pa)) 8) ts.length lo) (ad 8) H3 := hO3
                have hF := hF.put hz3 hq3 (fun _ => ⟨by rw [(hM.2.2 8 rfl).1], by rw [(hM.2.2 8 rfl).1]; decide⟩)
                have hO := pk1 hO (hq3 x (hM.ne 8 rfl))
                have hM := hM.arr (k := 8) rfl hA8 hq3
                refine lv_aload_n hx hb dX5_trade_134 rfl (lv_at hl 1 rfl) ?_
                refine gf hx hb hts hown hE lkX5_29 hO rfl dX5_trade_135 ?_
                refine lv_aload_n hx hb dX5_trade_138 rfl (lv_at hl 1 rfl) ?_
                refine gf hx hb hts hown hE lkX5_79 hO rfl dX5_trade_139 ?_
                refine lv_iload_n hx hb dX5_trade_142 rfl (lv_at hl 4 rfl) ?_
                have hA9 : ZA E 10 ((upA (upA ar 7 (upd (ar 7) ts.length pa)) 8 (upd ((upA ar 7 (upd (ar 7) ts.length pa)) 8) ts.length lo)) 9) (ad 9) H3 := hM.1.2 9 rfl
                refine asZ hx hb hE hS hA9 (hM.2.2 9 rfl).2  hn6 (by omega) (by omega) hpy dX5_trade_143 (fun H4 L4 hO4 hz4 hq4 hE hS => ?_)
                have hA9 : ZA E 10 (upd ((upA (upA ar 7 (upd (ar 7) ts.length pa)) 8 (upd ((upA ar 7 (upd (ar 7) ts.length pa)) 8) ts.length lo)) 9) ts.length py) (ad 9) H4 := hO4
                have hF := hF.put hz4 hq4 (fun _ => ⟨by rw [(hM.2.2 9 rfl).1], by rw [(hM.2.2 9 rfl).1]; decide⟩)
                have hO := pk1 hO (hq4 x (hM.ne 9 rfl))
                have hM := hM.arr (k := 9) rfl hA9 hq4
                refine lv_aload_n hx hb dX5_trade_144 rfl (lv_at hl 1 rfl) ?_
                refine gf hx hb hts hown hE lkX5_32 hO rfl dX5_trade_145 ?_
                refine lv_aload_n hx hb dX5_trade_148 rfl (lv_at hl 1 rfl) ?_
                refine gf hx hb hts hown hE lkX5_79 hO rfl dX5_trade_149 ?_
                refine lv_iload hx hb dX5_trade_152 (lv_at hl 5 rfl) ?_
                have hA10 : IA E 10 ((upA (upA (upA ar 7 (upd (ar 7) ts.length pa)) 8 (upd ((upA ar 7 (upd (ar 7) ts.length pa)) 8) ts.length lo)) 9 (upd ((upA (upA ar 7 (upd (ar 7) ts.length pa)) 8 (upd ((upA ar 7 (upd (ar 7) ts.length pa)) 8) ts.length lo)) 9) ts.length py)) 10) (ad 10) H4 := hM.1.2 10 rfl
                refine asI hx hb hE hS hA10 (hM.2.2 10 rfl).2  hn6 (by omega) (by omega) dX5_trade_154 (fun H5 L5 hO5 hz5 hq5 hE hS => ?_)
                have hA10 : IA E 10 (upd ((upA (upA (upA ar 7 (upd (ar 7) ts.length pa)) 8 (upd ((upA ar 7 (upd (ar 7) ts.length pa)) 8) ts.length lo)) 9 (upd ((upA (upA ar 7 (upd (ar 7) ts.length pa)) 8 (upd ((upA ar 7 (upd (ar 7) ts.length pa)) 8) ts.length lo)) 9) ts.length py)) 10) ts.length fi) (ad 10) H5 := hO5
                have hF := hF.put hz5 hq5 (fun _ => ⟨by rw [(hM.2.2 10 rfl).1], by rw [(hM.2.2 10 rfl).1]; decide⟩)
                have hO := pk1 hO (hq5 x (hM.ne 10 rfl))
                have hM := hM.arr (k := 10) rfl hA10 hq5
                refine lv_aload_n hx hb dX5_trade_155 rfl (lv_at hl 1 rfl) ?_
                refine gf hx hb hts hown hE lkX5_35 hO rfl dX5_trade_156 ?_
                refine lv_aload_n hx hb dX5_trade_159 rfl (lv_at hl 1 rfl) ?_
                refine gf hx hb hts hown hE lkX5_79 hO rfl dX5_trade_160 ?_
                refine lv_iload hx hb dX5_trade_163 (lv_at hl 6 rfl) ?_
                have hA11 : IA E 10 ((upA (upA (upA (upA ar 7 (upd (ar 7) ts.length pa)) 8 (upd ((upA ar 7 (upd (ar 7) ts.length pa)) 8) ts.length lo)) 9 (upd ((upA (upA ar 7 (upd (ar 7) ts.length pa)) 8 (upd ((upA ar 7 (upd (ar 7) ts.length pa)) 8) ts.length lo)) 9) ts.length py)) 10 (upd ((upA (upA (upA ar 7 (upd (ar 7) ts.length pa)) 8 (upd ((upA ar 7 (upd (ar 7) ts.length pa)) 8) ts.length lo)) 9 (upd ((upA (upA ar 7 (upd (ar 7) ts.length pa)) 8 (upd ((upA ar 7 (upd (ar 7) ts.length pa)) 8) ts.length lo)) 9) ts.length py)) 10) ts.length fi)) 11) (ad 11) H5 := hM.1.2 11 rfl
                refine asI hx hb hE hS hA11 (hM.2.2 11 rfl).2  hn6 (by omega) (by omega) dX5_trade_165 (fun H6 L6 hO6 hz6 hq6 hE hS => ?_)
                have hA11 : IA E 10 (upd ((upA (upA (upA (upA ar 7 (upd (ar 7) ts.length pa)) 8 (upd ((upA ar 7 (upd (ar 7) ts.length pa)) 8) ts.length lo)) 9 (upd ((upA (upA ar 7 (upd (ar 7) ts.length pa)) 8 (upd ((upA ar 7 (upd (ar 7) ts.length pa)) 8) ts.length lo)) 9) ts.length py)) 10 (upd ((upA (upA (upA ar 7 (upd (ar 7) ts.length pa)) 8 (upd ((upA ar 7 (upd (ar 7) ts.length pa)) 8) ts.length lo)) 9 (upd ((upA (upA ar 7 (upd (ar 7) ts.length pa)) 8 (upd ((upA ar 7 (upd (ar 7) ts.length pa)) 8) ts.length lo)) 9) ts.length py)) 10) ts.length fi)) 11) ts.length fs) (ad 11) H6 := hO6
                have hF := hF.put hz6 hq6 (fun _ => ⟨by rw [(hM.2.2 11 rfl).1], by rw [(hM.2.2 11 rfl).1]; decide⟩)
                have hO := pk1 hO (hq6 x (hM.ne 11 rfl))
                have hM := hM.arr (k := 11) rfl hA11 hq6
                refine lv_aload_n hx hb dX5_trade_166 rfl (lv_at hl 1 rfl) ?_
                refine gf hx hb hts hown hE lkX5_38 hO rfl dX5_trade_167 ?_
                refine lv_aload_n hx hb dX5_trade_170 rfl (lv_at hl 1 rfl) ?_
                refine gf hx hb hts hown hE lkX5_79 hO rfl dX5_trade_171 ?_
                refine lv_iload hx hb dX5_trade_174 (lv_at hl 7 rfl) ?_
                have hA12 : IA E 10 ((upA (upA (upA (upA (upA ar 7 (upd (ar 7) ts.length pa)) 8 (upd ((upA ar 7 (upd (ar 7) ts.length pa)) 8) ts.length lo)) 9 (upd ((upA (upA ar 7 (upd (ar 7) ts.length pa)) 8 (upd ((upA ar 7 (upd (ar 7) ts.length pa)) 8) ts.length lo)) 9) ts.length py)) 10 (upd ((upA (upA (upA ar 7 (upd (ar 7) ts.length pa)) 8 (upd ((upA ar 7 (upd (ar 7) ts.length pa)) 8) ts.length lo)) 9 (upd ((upA (upA ar 7 (upd (ar 7) ts.length pa)) 8 (upd ((upA ar 7 (upd (ar 7) ts.length pa)) 8) ts.length lo)) 9) ts.length py)) 10) ts.length fi)) 11 (upd ((upA (upA (upA (upA ar 7 (upd (ar 7) ts.length pa)) 8 (upd ((upA ar 7 (upd (ar 7) ts.length pa)) 8) ts.length lo)) 9 (upd ((upA (upA ar 7 (upd (ar 7) ts.length pa)) 8 (upd ((upA ar 7 (upd (ar 7) ts.length pa)) 8) ts.length lo)) 9) ts.length py)) 10 (upd ((upA (upA (upA ar 7 (upd (ar 7) ts.length pa)) 8 (upd ((upA ar 7 (upd (ar 7) ts.length pa)) 8) ts.length lo)) 9 (upd ((upA (upA ar 7 (upd (ar 7) ts.length pa)) 8 (upd ((upA ar 7 (upd (ar 7) ts.length pa)) 8) ts.length lo)) 9) ts.length py)) 10) ts.length fi)) 11) ts.length fs)) 12) (ad 12) H6 := hM.1.2 12 rfl
                refine asI hx hb hE hS hA12 (hM.2.2 12 rfl).2  hn6 (by omega) (by omega) dX5_trade_176 (fun H7 L7 hO7 hz7 hq7 hE hS => ?_)
                have hA12 : IA E 10 (upd ((upA (upA (upA (upA (upA ar 7 (upd (ar 7) ts.length pa)) 8 (upd ((upA ar 7 (upd (ar 7) ts.length pa)) 8) ts.length lo)) 9 (upd ((upA (upA ar 7 (upd (ar 7) ts.length pa)) 8 (upd ((upA ar 7 (upd (ar 7) ts.length pa)) 8) ts.length lo)) 9) ts.length py)) 10 (upd ((upA (upA (upA ar 7 (upd (ar 7) ts.length pa)) 8 (upd ((upA ar 7 (upd (ar 7) ts.length pa)) 8) ts.length lo)) 9 (upd ((upA (upA ar 7 (upd (ar 7) ts.length pa)) 8 (upd ((upA ar 7 (upd (ar 7) ts.length pa)) 8) ts.length lo)) 9) ts.length py)) 10) ts.length fi)) 11 (upd ((upA (upA (upA (upA ar 7 (upd (ar 7) ts.length pa)) 8 (upd ((upA ar 7 (upd (ar 7) ts.length pa)) 8) ts.length lo)) 9 (upd ((upA (upA ar 7 (upd (ar 7) ts.length pa)) 8 (upd ((upA ar 7 (upd (ar 7) ts.length pa)) 8) ts.length lo)) 9) ts.length py)) 10 (upd ((upA (upA (upA ar 7 (upd (ar 7) ts.length pa)) 8 (upd ((upA ar 7 (upd (ar 7) ts.length pa)) 8) ts.length lo)) 9 (upd ((upA (upA ar 7 (upd (ar 7) ts.length pa)) 8 (upd ((upA ar 7 (upd (ar 7) ts.length pa)) 8) ts.length lo)) 9) ts.length py)) 10) ts.length fi)) 11) ts.length fs)) 12) ts.length le) (ad 12) H7 := hO7
                have hF := hF.put hz7 hq7 (fun _ => ⟨by rw [(hM.2.2 12 rfl).1], by rw [(hM.2.2 12 rfl).1]; decide⟩)
                have hO := pk1 hO (hq7 x (hM.ne 12 rfl))
                have hM := hM.arr (k := 12) rfl hA12 hq7
                refine lv_aload_n hx hb dX5_trade_177 rfl (lv_at hl 1 rfl) ?_
                refine gf hx hb hts hown hE lkX5_41 hO rfl dX5_trade_178 ?_
                refine lv_aload_n hx hb dX5_trade_181 rfl (lv_at hl 1 rfl) ?_
                refine gf hx hb hts hown hE lkX5_79 hO rfl dX5_trade_182 ?_
                refine lv_iload hx hb dX5_trade_185 (lv_at hl 8 rfl) ?_
                have hA13 : IA E 10 ((upA (upA (upA (upA (upA (upA ar 7 (upd (ar 7) ts.length pa)) 8 (upd ((upA ar 7 (upd (ar 7) ts.length pa)) 8) ts.length lo)) 9 (upd ((upA (upA ar 7 (upd (ar 7) ts.length pa)) 8 (upd ((upA ar 7 (upd (ar 7) ts.length pa)) 8) ts.length lo)) 9) ts.length py)) 10 (upd ((upA (upA (upA ar 7 (upd (ar 7) ts.length pa)) 8 (upd ((upA ar 7 (upd (ar 7) ts.length pa)) 8) ts.length lo)) 9 (upd ((upA (upA ar 7 (upd (ar 7) ts.length pa)) 8 (upd ((upA ar 7 (upd (ar 7) ts.length pa)) 8) ts.length lo)) 9) ts.length py)) 10) ts.length fi)) 11 (upd ((upA (upA (upA (upA ar 7 (upd (ar 7) ts.length pa)) 8 (upd ((upA ar 7 (upd (ar 7) ts.length pa)) 8) ts.length lo)) 9 (upd ((upA (upA ar 7 (upd (ar 7) ts.length pa)) 8 (upd ((upA ar 7 (upd (ar 7) ts.length pa)) 8) ts.length lo)) 9) ts.length py)) 10 (upd ((upA (upA (upA ar 7 (upd (ar 7) ts.length pa)) 8 (upd ((upA ar 7 (upd (ar 7) ts.length pa)) 8) ts.length lo)) 9 (upd ((upA (upA ar 7 (upd (ar 7) ts.length pa)) 8 (upd ((upA ar 7 (upd (ar 7) ts.length pa)) 8) ts.length lo)) 9) ts.length py)) 10) ts.length fi)) 11) ts.length fs)) 12 (upd ((upA (upA (upA (upA (upA ar 7 (upd (ar 7) ts.length pa)) 8 (upd ((upA ar 7 (upd (ar 7) ts.length pa)) 8) ts.length lo)) 9 (upd ((upA (upA ar 7 (upd (ar 7) ts.length pa)) 8 (upd ((upA ar 7 (upd (ar 7) ts.length pa)) 8) ts.length lo)) 9) ts.length py)) 10 (upd ((upA (upA (upA ar 7 (upd (ar 7) ts.length pa)) 8 (upd ((upA ar 7 (upd (ar 7) ts.length pa)) 8) ts.length lo)) 9 (upd ((upA (upA ar 7 (upd (ar 7) ts.length pa)) 8 (upd ((upA ar 7 (upd (ar 7) ts.length pa)) 8) ts.length lo)) 9) ts.length py)) 10) ts.length fi)) 11 (upd ((upA (upA (upA (upA ar 7 (upd (ar 7) ts.length pa)) 8 (upd ((upA ar 7 (upd (ar 7) ts.length pa)) 8) ts.length lo)) 9 (upd ((upA (upA ar 7 (upd (ar 7) ts.length pa)) 8 (upd ((upA ar 7 (upd (ar 7) ts.length pa)) 8) ts.length lo)) 9) ts.length py)) 10 (upd ((upA (upA (upA ar 7 (upd (ar 7) ts.length pa)) 8 (upd ((upA ar 7 (upd (ar 7) ts.length pa)) 8) ts.length lo)) 9 (upd ((upA (upA ar 7 (upd (ar 7) ts.length pa)) 8 (upd ((upA ar 7 (upd (ar 7) ts.length pa)) 8) ts.length lo)) 9) ts.length py)) 10) ts.length fi)) 11) ts.length fs)) 12) ts.length le)) 13) (ad 13) H7 := hM.1.2 13 rfl
                refine asI hx hb hE hS hA13 (hM.2.2 13 rfl).2  hn6 (by omega) (by omega) dX5_trade_187 (fun H8 L8 hO8 hz8 hq8 hE hS => ?_)
                have hA13 : IA E 10 (upd ((upA (upA (upA (upA (upA (upA ar 7 (upd (ar 7) ts.length pa)) 8 (upd ((upA ar 7 (upd (ar 7) ts.length pa)) 8) ts.length lo)) 9 (upd ((upA (upA ar 7 (upd (ar 7) ts.length pa)) 8 (upd ((upA ar 7 (upd (ar 7) ts.length pa)) 8) ts.length lo)) 9) ts.length py)) 10 (upd ((upA (upA (upA ar 7 (upd (ar 7) ts.length pa)) 8 (upd ((upA ar 7 (upd (ar 7) ts.length pa)) 8) ts.length lo)) 9 (upd ((upA (upA ar 7 (upd (ar 7) ts.length pa)) 8 (upd ((upA ar 7 (upd (ar 7) ts.length pa)) 8) ts.length lo)) 9) ts.length py)) 10) ts.length fi)) 11 (upd ((upA (upA (upA (upA ar 7 (upd (ar 7) ts.length pa)) 8 (upd ((upA ar 7 (upd (ar 7) ts.length pa)) 8) ts.length lo)) 9 (upd ((upA (upA ar 7 (upd (ar 7) ts.length pa)) 8 (upd ((upA ar 7 (upd (ar 7) ts.length pa)) 8) ts.length lo)) 9) ts.length py)) 10 (upd ((upA (upA (upA ar 7 (upd (ar 7) ts.length pa)) 8 (upd ((upA ar 7 (upd (ar 7) ts.length pa)) 8) ts.length lo)) 9 (upd ((upA (upA ar 7 (upd (ar 7) ts.length pa)) 8 (upd ((upA ar 7 (upd (ar 7) ts.length pa)) 8) ts.length lo)) 9) ts.length py)) 10) ts.length fi)) 11) ts.length fs)) 12 (upd ((upA (upA (upA (upA (upA ar 7 (upd (ar 7) ts.length pa)) 8 (upd ((upA ar 7 (upd (ar 7) ts.length pa)) 8) ts.length lo)) 9 (upd ((upA (upA ar 7 (upd (ar 7) ts.length pa)) 8 (upd ((upA ar 7 (upd (ar 7) ts.length pa)) 8) ts.length lo)) 9) ts.length py)) 10 (upd ((upA (upA (upA ar 7 (upd (ar 7) ts.length pa)) 8 (upd ((upA ar 7 (upd (ar 7) ts.length pa)) 8) ts.length lo)) 9 (upd ((upA (upA ar 7 (upd (ar 7) ts.length pa)) 8 (upd ((upA ar 7 (upd (ar 7) ts.length pa)) 8) ts.length lo)) 9) ts.length py)) 10) ts.length fi)) 11 (upd ((upA (upA (upA (upA ar 7 (upd (ar 7) ts.length pa)) 8 (upd ((upA ar 7 (upd (ar 7) ts.length pa)) 8) ts.length lo)) 9 (upd ((upA (upA ar 7 (upd (ar 7) ts.length pa)) 8 (upd ((upA ar 7 (upd (ar 7) ts.length pa)) 8) ts.length lo)) 9) ts.length py)) 10 (upd ((upA (upA (upA ar 7 (upd (ar 7) ts.length pa)) 8 (upd ((upA ar 7 (upd (ar 7) ts.length pa)) 8) ts.length lo)) 9 (upd ((upA (upA ar 7 (upd (ar 7) ts.length pa)) 8 (upd ((upA ar 7 (upd (ar 7) ts.length pa)) 8) ts.length lo)) 9) ts.length py)) 10) ts.length fi)) 11) ts.length fs)) 12) ts.length le)) 13) ts.length pe) (ad 13) H8 := hO8
                have hF := hF.put hz8 hq8 (fun _ => ⟨by rw [(hM.2.2 13 rfl).1], by rw [(hM.2.2 13 rfl).1]; decide⟩)
                have hO := pk1 hO (hq8 x (hM.ne 13 rfl))
                have hM := hM.arr (k := 13) rfl hA13 hq8
                refine lv_aload_n hx hb dX5_trade_188 rfl (lv_at hl 1 rfl) ?_
                refine lv_dup hx hb dX5_trade_189 rfl ?_
                refine gf hx hb hts hown hE lkX5_79 hO rfl dX5_trade_190 ?_
                refine lv_iconst (v := 1) hx hb dX5_trade_193 (by decide) ?_
                refine lv_iadd hx hb dX5_trade_194 ?_
                rw [show sc 6 + 1 = nI (ts.length + 1) by rw [hn6]; exact nI_1 _]
                refine pf hx hb hts hown hE hS pkX5_79 rfl hO hM.2.1.2 rfl rfl (Nat.le_of_ble_eq_true rfl) dX5_trade_195 (fun H9 L9 hO9 hz9 hq9 hE hS => ?_)
                have hO : OB E 6 [.int 0, .ref (ad 1), .ref (ad 2), .ref (ad 3), .ref (ad 4), .int (sc 5), .int (nI (ts.length + 1)), .ref (ad 7), .ref (ad 8), .ref (ad 9), .ref (ad 10), .ref (ad 11), .ref (ad 12), .ref (ad 13), .ref (ad 14), .ref (ad 15), .ref (ad 16), .int (sc 17), .ref (ad 18), .ref (ad 19), .ref (ad 20), .ref (ad 21), .ref (ad 22), .ref (ad 23)] x H9 := hO9
                have hF := hF.put hz9 hq9 (fun _ => ⟨by rw [hM.2.1.1], by rw [hM.2.1.1]; exact Nat.zero_le _⟩)
                have hM := hM.put (sc' := (upd (upd sc 0 0) 6 (nI (ts.length + 1)))) hO hq9
                refine lv_aload_n hx hb dX5_trade_198 rfl (lv_at hl 1 rfl) ?_
                refine gf hx hb hts hown hE lkX5_79 hO rfl dX5_trade_199 ?_
                refine lv_iconst (v := 1) hx hb dX5_trade_202 (by decide) ?_
                refine lv_isub hx hb dX5_trade_203 ?_
                exact cI hx hb hr hlk hB hS (by omega) (by omega) (⟨by rw [hcd, nI_pred]; rfl, Or.inr ⟨hcd, ⟨(upd (upd sc 0 0) 6 (nI (ts.length + 1))), ad, (upA (upA (upA (upA (upA (upA (upA ar 7 (upd (ar 7) ts.length pa)) 8 (upd ((upA ar 7 (upd (ar 7) ts.length pa)) 8) ts.length lo)) 9 (upd ((upA (upA ar 7 (upd (ar 7) ts.length pa)) 8 (upd ((upA ar 7 (upd (ar 7) ts.length pa)) 8) ts.length lo)) 9) ts.length py)) 10 (upd ((upA (upA (upA ar 7 (upd (ar 7) ts.length pa)) 8 (upd ((upA ar 7 (upd (ar 7) ts.length pa)) 8) ts.length lo)) 9 (upd ((upA (upA ar 7 (upd (ar 7) ts.length pa)) 8 (upd ((upA ar 7 (upd (ar 7) ts.length pa)) 8) ts.length lo)) 9) ts.length py)) 10) ts.length fi)) 11 (upd ((upA (upA (upA (upA ar 7 (upd (ar 7) ts.length pa)) 8 (upd ((upA ar 7 (upd (ar 7) ts.length pa)) 8) ts.length lo)) 9 (upd ((upA (upA ar 7 (upd (ar 7) ts.length pa)) 8 (upd ((upA ar 7 (upd (ar 7) ts.length pa)) 8) ts.length lo)) 9) ts.length py)) 10 (upd ((upA (upA (upA ar 7 (upd (ar 7) ts.length pa)) 8 (upd ((upA ar 7 (upd (ar 7) ts.length pa)) 8) ts.length lo)) 9 (upd ((upA (upA ar 7 (upd (ar 7) ts.length pa)) 8 (upd ((upA ar 7 (upd (ar 7) ts.length pa)) 8) ts.length lo)) 9) ts.length py)) 10) ts.length fi)) 11) ts.length fs)) 12 (upd ((upA (upA (upA (upA (upA ar 7 (upd (ar 7) ts.length pa)) 8 (upd ((upA ar 7 (upd (ar 7) ts.length pa)) 8) ts.length lo)) 9 (upd ((upA (upA ar 7 (upd (ar 7) ts.length pa)) 8 (upd ((upA ar 7 (upd (ar 7) ts.length pa)) 8) ts.length lo)) 9) ts.length py)) 10 (upd ((upA (upA (upA ar 7 (upd (ar 7) ts.length pa)) 8 (upd ((upA ar 7 (upd (ar 7) ts.length pa)) 8) ts.length lo)) 9 (upd ((upA (upA ar 7 (upd (ar 7) ts.length pa)) 8 (upd ((upA ar 7 (upd (ar 7) ts.length pa)) 8) ts.length lo)) 9) ts.length py)) 10) ts.length fi)) 11 (upd ((upA (upA (upA (upA ar 7 (upd (ar 7) ts.length pa)) 8 (upd ((upA ar 7 (upd (ar 7) ts.length pa)) 8) ts.length lo)) 9 (upd ((upA (upA ar 7 (upd (ar 7) ts.length pa)) 8 (upd ((upA ar 7 (upd (ar 7) ts.length pa)) 8) ts.length lo)) 9) ts.length py)) 10 (upd ((upA (upA (upA ar 7 (upd (ar 7) ts.length pa)) 8 (upd ((upA ar 7 (upd (ar 7) ts.length pa)) 8) ts.length lo)) 9 (upd ((upA (upA ar 7 (upd (ar 7) ts.length pa)) 8 (upd ((upA ar 7 (upd (ar 7) ts.length pa)) 8) ts.length lo)) 9) ts.length py)) 10) ts.length fi)) 11) ts.length fs)) 12) ts.length le)) 13 (upd ((upA (upA (upA (upA (upA (upA ar 7 (upd (ar 7) ts.length pa)) 8 (upd ((upA ar 7 (upd (ar 7) ts.length pa)) 8) ts.length lo)) 9 (upd ((upA (upA ar 7 (upd (ar 7) ts.length pa)) 8 (upd ((upA ar 7 (upd (ar 7) ts.length pa)) 8) ts.length lo)) 9) ts.length py)) 10 (upd ((upA (upA (upA ar 7 (upd (ar 7) ts.length pa)) 8 (upd ((upA ar 7 (upd (ar 7) ts.length pa)) 8) ts.length lo)) 9 (upd ((upA (upA ar 7 (upd (ar 7) ts.length pa)) 8 (upd ((upA ar 7 (upd (ar 7) ts.length pa)) 8) ts.length lo)) 9) ts.length py)) 10) ts.length fi)) 11 (upd ((upA (upA (upA (upA ar 7 (upd (ar 7) ts.length pa)) 8 (upd ((upA ar 7 (upd (ar 7) ts.length pa)) 8) ts.length lo)) 9 (upd ((upA (upA ar 7 (upd (ar 7) ts.length pa)) 8 (upd ((upA ar 7 (upd (ar 7) ts.length pa)) 8) ts.length lo)) 9) ts.length py)) 10 (upd ((upA (upA (upA ar 7 (upd (ar 7) ts.length pa)) 8 (upd ((upA ar 7 (upd (ar 7) ts.length pa)) 8) ts.length lo)) 9 (upd ((upA (upA ar 7 (upd (ar 7) ts.length pa)) 8 (upd ((upA ar 7 (upd (ar 7) ts.length pa)) 8) ts.length lo)) 9) ts.length py)) 10) ts.length fi)) 11) ts.length fs)) 12 (upd ((upA (upA (upA (upA (upA ar 7 (upd (ar 7) ts.length pa)) 8 (upd ((upA ar 7 (upd (ar 7) ts.length pa)) 8) ts.length lo)) 9 (upd ((upA (upA ar 7 (upd (ar 7) ts.length pa)) 8 (upd ((upA ar 7 (upd (ar 7) ts.length pa)) 8) ts.length lo)) 9) ts.length py)) 10 (upd ((upA (upA (upA ar 7 (upd (ar 7) ts.length pa)) 8 (upd ((upA ar 7 (upd (ar 7) ts.length pa)) 8) ts.length lo)) 9 (upd ((upA (upA ar 7 (upd (ar 7) ts.length pa)) 8 (upd ((upA ar 7 (upd (ar 7) ts.length pa)) 8) ts.length lo)) 9) ts.length py)) 10) ts.length fi)) 11 (upd ((upA (upA (upA (upA ar 7 (upd (ar 7) ts.length pa)) 8 (upd ((upA ar 7 (upd (ar 7) ts.length pa)) 8) ts.length lo)) 9 (upd ((upA (upA ar 7 (upd (ar 7) ts.length pa)) 8 (upd ((upA ar 7 (upd (ar 7) ts.length pa)) 8) ts.length lo)) 9) ts.length py)) 10 (upd ((upA (upA (upA ar 7 (upd (ar 7) ts.length pa)) 8 (upd ((upA ar 7 (upd (ar 7) ts.length pa)) 8) ts.length lo)) 9 (upd ((upA (upA ar 7 (upd (ar 7) ts.length pa)) 8 (upd ((upA ar 7 (upd (ar 7) ts.length pa)) 8) ts.length lo)) 9) ts.length py)) 10) ts.length fi)) 11) ts.length fs)) 12) ts.length le)) 13) ts.length pe)), hM, hI.trd c10, rfl⟩, hF, by omega⟩⟩) dX5_trade_204
              · have c10 : 10 ≤ ts.length := by
                  have := (nI_eq (a := ts.length) (b := 10) (by omega) (by decide)).mp (hn6.symm.trans c9)
                  omega
                have hcd : cdTrd ts pa lo fi fs le pe = 3 := by unfold cdTrd; rw [c3, hall, if_pos rfl, if_pos rfl]; exact if_pos c10
                refine lv_iconst (v := 3) hx hb dX5_trade_97 (by decide) ?_
                refine lv_goto (tgt := 102) hx hb dX5_trade_98 (by decide) ?_
                refine pf hx hb hts hown hE hS pkX5_71 rfl hO hM.2.1.2 rfl rfl (Nat.le_of_ble_eq_true rfl) dX5_trade_102 (fun H1 L1 hO1 hz1 hq1 hE hS => ?_)
                have hO : OB E 6 [.int 3, .ref (ad 1), .ref (ad 2), .ref (ad 3), .ref (ad 4), .int (sc 5), .int (sc 6), .ref (ad 7), .ref (ad 8), .ref (ad 9), .ref (ad 10), .ref (ad 11), .ref (ad 12), .ref (ad 13), .ref (ad 14), .ref (ad 15), .ref (ad 16), .int (sc 17), .ref (ad 18), .ref (ad 19), .ref (ad 20), .ref (ad 21), .ref (ad 22), .ref (ad 23)] x H1 := hO1
                have hF := hF.put hz1 hq1 (fun _ => ⟨by rw [hM.2.1.1], by rw [hM.2.1.1]; exact Nat.zero_le _⟩)
                have hM := hM.put (sc' := (upd sc 0 3)) hO hq1
                have hI : MI (upd sc 0 3) ar h0 h1 fx ts B := hI
                refine lv_aload_n hx hb dX5_trade_105 rfl (lv_at hl 1 rfl) ?_
                refine gf hx hb hts hown hE lkX5_71 hO rfl dX5_trade_106 ?_
                refine lv_if_le (tgt := 114) hx hb dX5_trade_109 (by decide) (fun c99 => ?_) (fun c99 => ?_)
                · exact absurd c99 (by decide)
                refine lv_iconst (v := 0) hx hb dX5_trade_112 (by decide) ?_
                exact cI hx hb hr hlk hB hS (by omega) (by omega) (⟨by rw [hcd]; rfl, Or.inl ⟨by rw [hcd]; decide, by rw [hcd]; exact ⟨⟨(upd sc 0 3), ad, ar, hM, hI, rfl⟩, hF, by omega⟩⟩⟩) dX5_trade_113
