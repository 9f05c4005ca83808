set_option maxRecDepth 100000 in
set_option maxHeartbeats 4000000 in
/-- breakPart -/
theorem lc_7 {p : Program} {e : Env} {s : State} {m : MethodId} {below : List Frame} {meth : Method} {c : Code} {Q : State → Prop} {b L n : Nat} {xs A : Nat → Int32} {E : ET} {x mo o cells slots : Nat} {H : Heap} {locs : List Loc} {ls : Array Slot} (hC : LX p s m c b L n xs A E o) (hE : EV E s H) (hS : va_S (fr E) s.heap H locs) (hI : LI E x mo o n cells slots H) (hl : lv_has ls 8 [(4, .int (nI (8 * n))), (0, .ref b), (1, .ref x), (2, .ref mo), (3, .ref o)])
    (kk : ∀ (H1 : Heap) (locs1 : List Loc) (cells1 slots1 : Nat) (ls1 : Array Slot), EV E s H1 → va_S (fr E) s.heap H1 locs1 → LI E x mo o (n + 1) cells1 slots1 H1 → lv_has ls1 8 [(4, .int (nI (8 * n))), (0, .ref b), (1, .ref x), (2, .ref mo), (3, .ref o)] → W p (eL E) e room_1 s m #[Value.ref b] below meth c H1 locs1 cells1 slots1 Q (F0 m 1599 ls1 [])) : W p (eL E) e room_1 s m #[Value.ref b] below meth c H locs cells slots Q (F0 m 671 ls []) := by
  obtain ⟨hx, hb, hml, hown, hts, hBE, hXs, hbl, hgo, hnL, hL, hA⟩ := hC
  obtain ⟨ow, h0, h1, fx, ts, B, c9, f, hX, hMW, hJ, ho, hV, hBl, hcl, hsl⟩ := hI
  have hB : eB E ≤ s.heap.size := Nat.le_of_eq hBE
  have hbA : ¬ fr E b := by show ¬ eB E ≤ b; omega
  have hBF := hE.2.2.1
  have htn := hV.tn
  have hzl := zc_le ts
  have hbl9 := hMW.bl
  have hK : BL ts := fun tr ht => by have := hbl9 tr ht; omega
  refine lv_aload_n hx hb dL_law_671 rfl (lv_at hl 2 rfl) ?_
  refine lv_aload_n hx hb dL_law_672 rfl (lv_at hl 1 rfl) ?_
  refine lv_iload hx hb dL_law_673 (lv_at hl 0 rfl) ?_
  refine lv_iconst (v := 1) hx hb dL_law_675 (by decide) ?_
  refine lv_iadd hx hb dL_law_676 ?_
  refine lsd (k := 1) hx hb hXs hbl hbA hS hnL hL hA (by decide) (nI_add (8 * n) 1) dL_law_677 ?_
  refine lv_aload_n hx hb dL_law_678 rfl (lv_at hl 1 rfl) ?_
  refine lv_iload hx hb dL_law_679 (lv_at hl 0 rfl) ?_
  refine lv_iconst (v := 2) hx hb dL_law_681 (by decide) ?_
  refine lv_iadd hx hb dL_law_682 ?_
  refine lsd (k := 2) hx hb hXs hbl hbA hS hnL hL hA (by decide) (nI_add (8 * n) 2) dL_law_683 ?_
  refine lv_aload_n hx hb dL_law_684 rfl (lv_at hl 1 rfl) ?_
  refine lv_iload hx hb dL_law_685 (lv_at hl 0 rfl) ?_
  refine lv_iconst (v := 3) hx hb dL_law_687 (by decide) ?_
  refine lv_iadd hx hb dL_law_688 ?_
  refine lsd (k := 3) hx hb hXs hbl hbA hS hnL hL hA (by decide) (nI_add (8 * n) 3) dL_law_689 ?_
  refine lv_aload_n hx hb dL_law_690 rfl (lv_at hl 4 rfl) ?_
  refine lgW hx hb hml hts hown hB hE hS kwX_118 (w_breakPart E ow x o h0 h1 fx ts f (A 1) (A 2) (A 3) B.length H hX hV hK hJ ho hgo hbl9 (by omega)) (by decide) rfl hl.1 rfl (Nat.le_of_ble_eq_true rfl) (by omega) (by omega) dL_law_691 (fun v1 H1 L1 ho1 hz1 hE hS1 => ?_)
  obtain ⟨hv1, hw1⟩ := ho1
  subst hv1
  dsimp only [Option.toList, List.nil_append, List.cons_append]
  rcases hw1 with ⟨hcd, hw⟩ | ⟨hcd, hw⟩
  · obtain ⟨ow1, f1, hX1, hM1, hJ1, ho9, -⟩ := hw.go hMW hJ ho
    refine lv_istore (lv' := [(5, .int (nI (cdBrk ts (A 1) (A 2) (A 3)))), (4, .int (nI (8 * n))), (0, .ref b), (1, .ref x), (2, .ref mo), (3, .ref o)]) hx hb dL_law_694 hl (by decide) rfl (fun ls hl => ?_)
    refine lv_aload_n hx hb dL_law_696 rfl (lv_at hl 4 rfl) ?_
    refine lv_aload_n hx hb dL_law_697 rfl (lv_at hl 2 rfl) ?_
    refine lv_iload hx hb dL_law_698 (lv_at hl 1 rfl) ?_
    refine lv_iconst (v := 1) hx hb dL_law_700 (by decide) ?_
    refine lv_iadd hx hb dL_law_701 ?_
    refine lsd (k := 1) hx hb hXs hbl hbA hS1 hnL hL hA (by decide) (nI_add (8 * n) 1) dL_law_702 ?_
    refine lv_aload_n hx hb dL_law_703 rfl (lv_at hl 2 rfl) ?_
    refine lv_iload hx hb dL_law_704 (lv_at hl 1 rfl) ?_
    refine lv_iconst (v := 2) hx hb dL_law_706 (by decide) ?_
    refine lv_iadd hx hb dL_law_707 ?_
    refine lsd (k := 2) hx hb hXs hbl hbA hS1 hnL hL hA (by decide) (nI_add (8 * n) 2) dL_law_708 ?_
    refine lv_aload_n hx hb dL_law_709 rfl (lv_at hl 2 rfl) ?_
    refine lv_iload hx hb dL_law_710 (lv_at hl 1 rfl) ?_
    refine lv_iconst (v := 3) hx hb dL_law_712 (by decide) ?_
    refine lv_iadd hx hb dL_law_713 ?_
    refine lsd (k := 3) hx hb hXs hbl hbA hS1 hnL hL hA (by decide) (nI_add (8 * n) 3) dL_law_714 ?_
    obtain ⟨sc, ad, ar, hMR, hMI, hsc⟩ := hM1
    refine lgV hx hb hml hts hown hB hE hS1 kwL_121 (c_mbrkp E ow1 mo sc ad ar h0 h1 fx ts B (A 1) (A 2) (A 3) H1 hMR hMI hV (by omega)) hMR.1.1 rfl (by decide) rfl hl.1 rfl (Nat.le_of_ble_eq_true rfl) (by omega) (by omega) dL_law_715 (fun H2 L2 hG2 hz2 hE hS2 => ?_)
    have hG2 := (hG2.resolve_right (fun q => hcd q.1)).2
    obtain ⟨hX2, hM2, hJ2⟩ := hG2.go hX1 hJ1 ho9 (old9 hB hS1 hS2) hBF
    refine lv_istore (lv' := [(6, .int (if cdBrk ts (A 1) (A 2) (A 3) = 0 then ((trd ts (A 1)).elim 0 (fun tr => nI (tr.2.1.length + 1))) else 0)), (5, .int (nI (cdBrk ts (A 1) (A 2) (A 3)))), (4, .int (nI (8 * n))), (0, .ref b), (1, .ref x), (2, .ref mo), (3, .ref o)]) hx hb dL_law_718 hl (by decide) rfl (fun ls hl => ?_)
    refine lv_aload_n hx hb dL_law_720 rfl (lv_at hl 5 rfl) ?_
    obtain ⟨sc2, ad2, ar2, hMR2, hMI2, hsc2⟩ := id hM2
    refine lpV hx hb hml hts hown hE kwL_93 (c_mthrown E mo sc2 ad2 ar2 H2 hMR2.1) hMR2.1.1 rfl (by decide) rfl hl.1 rfl (Nat.le_of_ble_eq_true rfl) (by omega) (by omega) dL_law_721 ?_
    rw [hsc2]
    refine lv_iload hx hb dL_law_724 (lv_at hl 1 rfl) ?_
    refine lv_icmp_eq (tgt := 731) hx hb dL_law_726 (by decide) (fun c5 => ?_) (fun c5 => ?_)
    rotate_left
    · exact absurd rfl c5
    refine lv_iload hx hb dL_law_731 (lv_at hl 1 rfl) ?_
    refine lv_if_ne (tgt := 748) hx hb dL_law_733 (by decide) (fun c6 => ?_) (fun c6 => ?_)
    rotate_left
    · exact absurd c6 (cd_ne (cdBrk_le _ _ _ _) hcd)
    refine lv_goto (tgt := 1599) hx hb dL_law_748 (by decide) ?_
    exact kk H2 L2 _ _ ls hE hS2 ⟨ow1, h0, h1, fx, ts, B, cdBrk ts (A 1) (A 2) (A 3), f1, hX2, hM2, hJ2, ho9, hV, by omega, by omega, by omega⟩ (lv_sub hl [2, 3, 4, 5, 6] rfl)
  · obtain ⟨tr, i9, et, ht, hw⟩ := hw
    obtain ⟨ow1, f1, hX1, hM1, hJ1, ho9, hP1⟩ := hw.go hMW hJ ho
    refine lv_istore (lv' := [(5, .int (nI (cdBrk ts (A 1) (A 2) (A 3)))), (4, .int (nI (8 * n))), (0, .ref b), (1, .ref x), (2, .ref mo), (3, .ref o)]) hx hb dL_law_694 hl (by decide) rfl (fun ls hl => ?_)
    refine lv_aload_n hx hb dL_law_696 rfl (lv_at hl 4 rfl) ?_
    refine lv_aload_n hx hb dL_law_697 rfl (lv_at hl 2 rfl) ?_
    refine lv_iload hx hb dL_law_698 (lv_at hl 1 rfl) ?_
    refine lv_iconst (v := 1) hx hb dL_law_700 (by decide) ?_
    refine lv_iadd hx hb dL_law_701 ?_
    refine lsd (k := 1) hx hb hXs hbl hbA hS1 hnL hL hA (by decide) (nI_add (8 * n) 1) dL_law_702 ?_
    refine lv_aload_n hx hb dL_law_703 rfl (lv_at hl 2 rfl) ?_
    refine lv_iload hx hb dL_law_704 (lv_at hl 1 rfl) ?_
    refine lv_iconst (v := 2) hx hb dL_law_706 (by decide) ?_
    refine lv_iadd hx hb dL_law_707 ?_
    refine lsd (k := 2) hx hb hXs hbl hbA hS1 hnL hL hA (by decide) (nI_add (8 * n) 2) dL_law_708 ?_
    refine lv_aload_n hx hb dL_law_709 rfl (lv_at hl 2 rfl) ?_
    refine lv_iload hx hb dL_law_710 (lv_at hl 1 rfl) ?_
    refine lv_iconst (v := 3) hx hb dL_law_712 (by decide) ?_
    refine lv_iadd hx hb dL_law_713 ?_
    refine lsd (k := 3) hx hb hXs hbl hbA hS1 hnL hL hA (by decide) (nI_add (8 * n) 3) dL_law_714 ?_
    obtain ⟨sc, ad, ar, hMR, hMI, hsc⟩ := hM1
    refine lgV hx hb hml hts hown hB hE hS1 kwL_121 (c_mbrkp E ow1 mo sc ad ar h0 h1 fx ts B (A 1) (A 2) (A 3) H1 hMR hMI hV (by omega)) hMR.1.1 rfl (by decide) rfl hl.1 rfl (Nat.le_of_ble_eq_true rfl) (by omega) (by omega) dL_law_715 (fun H2 L2 hG2 hz2 hE hS2 => ?_)
    obtain ⟨tr9, j9, et9, ht9, hG2⟩ := (hG2.resolve_left (fun q => q.1 hcd)).2
    obtain ⟨ej9, etr9⟩ := same_tr hV et ht et9 ht9
    subst ej9 etr9
    obtain ⟨hX2, hM2, hJ2⟩ := hG2.go hX1 hJ1 ho9 (old9 hB hS1 hS2) hBF
    obtain ⟨hVn, hzn⟩ := sv_brk hV et ht hcd
    have hbn : (B ++ [(nI j9, A 2, A 3)]).length = B.length + 1 := by rw [List.length_append]; rfl
    have etr := trd_at hV et ht
    refine lv_istore (lv' := [(6, .int (if cdBrk ts (A 1) (A 2) (A 3) = 0 then ((trd ts (A 1)).elim 0 (fun tr => nI (tr.2.1.length + 1))) else 0)), (5, .int (nI (cdBrk ts (A 1) (A 2) (A 3)))), (4, .int (nI (8 * n))), (0, .ref b), (1, .ref x), (2, .ref mo), (3, .ref o)]) hx hb dL_law_718 hl (by decide) rfl (fun ls hl => ?_)
    refine lv_aload_n hx hb dL_law_720 rfl (lv_at hl 5 rfl) ?_
    obtain ⟨sc2, ad2, ar2, hMR2, hMI2, hsc2⟩ := id hM2
    refine lpV hx hb hml hts hown hE kwL_93 (c_mthrown E mo sc2 ad2 ar2 H2 hMR2.1) hMR2.1.1 rfl (by decide) rfl hl.1 rfl (Nat.le_of_ble_eq_true rfl) (by omega) (by omega) dL_law_721 ?_
    rw [hsc2]
    refine lv_iload hx hb dL_law_724 (lv_at hl 1 rfl) ?_
    refine lv_icmp_eq (tgt := 731) hx hb dL_law_726 (by decide) (fun c5 => ?_) (fun c5 => ?_)
    rotate_left
    · exact absurd (by rw [hcd]) c5
    refine lv_iload hx hb dL_law_731 (lv_at hl 1 rfl) ?_
    refine lv_if_ne (tgt := 748) hx hb dL_law_733 (by decide) (fun c6 => ?_) (fun c6 => ?_)
    · exact absurd (by rw [hcd]; rfl) c6
    refine lv_aload_n hx hb dL_law_736 rfl (lv_at hl 6 rfl) ?_
    refine lv_iconst (v := 0) hx hb dL_law_737 (by decide) ?_
    refine aJ0 hx hb hE hJ2 dL_law_738 ?_
    refine lv_iload hx hb dL_law_739 (lv_at hl 0 rfl) ?_
    refine lv_i2l hx hb dL_law_741 rfl ?_
    refine W.lcmp hx hb dL_law_742 ?_
    refine lv_if_eq (tgt := 748) hx hb dL_law_743 (by decide) (fun c7 => ?_) (fun c7 => ?_)
    rotate_left
    · exact absurd (lcmp_eq0.mpr (by rw [if_pos hcd, etr]; exact hP1)) c7
    refine lv_goto (tgt := 1599) hx hb dL_law_748 (by decide) ?_
    exact kk H2 L2 _ _ ls hE hS2 ⟨ow1, h0, h1, fx, (ts.set j9 (brT tr9 (A 2) (A 3))), (B ++ [(nI j9, A 2, A 3)]), 0, f1, hX2, hM2, hJ2, ho9, hVn, by omega, by omega, by omega⟩ (lv_sub hl [2, 3, 4, 5, 6] rfl)

set_option maxRecDepth 100000 in
set_option maxHeartbeats 4000000 in
/-- handOver -/
theorem lc_8 {p : Program} {e : Env} {s : State} {m : MethodId} {below : List Frame} {meth : Method} {c : Code} {Q : State → Prop} {b L n : Nat} {xs A : Nat → Int32} {E : ET} {x mo o cells slots : Nat} {H : Heap} {locs : List Loc} {ls : Array Slot} (hC : LX p s m c b L n xs A E o) (hE : EV E s H) (hS : va_S (fr E) s.heap H locs) (hI : LI E x mo o n cells slots H) (hl : lv_has ls 8 [(4, .int (nI (8 * n))), (0, .ref b), (1, .ref x), (2, .ref mo), (3, .ref o)])
    (kk : ∀ (H1 : Heap) (locs1 : List Loc) (cells1 slots1 : Nat) (ls1 : Array Slot), EV E s H1 → va_S (fr E) s.heap H1 locs1 → LI E x mo o (n + 1) cells1 slots1 H1 → lv_has ls1 8 [(4, .int (nI (8 * n))), (0, .ref b), (1, .ref x), (2, .ref mo), (3, .ref o)] → W p (eL E) e room_1 s m #[Value.ref b] below meth c H1 locs1 cells1 slots1 Q (F0 m 1599 ls1 [])) : W p (eL E) e room_1 s m #[Value.ref b] below meth c H locs cells slots Q (F0 m 751 ls []) := by
  obtain ⟨hx, hb, hml, hown, hts, hBE, hXs, hbl, hgo, hnL, hL, hA⟩ := hC
  obtain ⟨ow, h0, h1, fx, ts, B, c9, f, hX, hMW, hJ, ho, hV, hBl, hcl, hsl⟩ := hI
  have hB : eB E ≤ s.heap.size := Nat.le_of_eq hBE
  have hbA : ¬ fr E b := by show ¬ eB E ≤ b; omega
  have hBF := hE.2.2.1
  have htn := hV.tn
  have hzl := zc_le ts
  have hbl9 := hMW.bl
  have hK : BL ts := fun tr ht => by have := hbl9 tr ht; omega
  refine lv_aload_n hx hb dL_law_751 rfl (lv_at hl 2 rfl) ?_
  refine lv_aload_n hx hb dL_law_752 rfl (lv_at hl 1 rfl) ?_
  refine lv_iload hx hb dL_law_753 (lv_at hl 0 rfl) ?_
  refine lv_iconst (v := 1) hx hb dL_law_755 (by decide) ?_
  refine lv_iadd hx hb dL_law_756 ?_
  refine lsd (k := 1) hx hb hXs hbl hbA hS hnL hL hA (by decide) (nI_add (8 * n) 1) dL_law_757 ?_
  refine lv_aload_n hx hb dL_law_758 rfl (lv_at hl 1 rfl) ?_
  refine lv_iload hx hb dL_law_759 (lv_at hl 0 rfl) ?_
  refine lv_iconst (v := 2) hx hb dL_law_761 (by decide) ?_
  refine lv_iadd hx hb dL_law_762 ?_
  refine lsd (k := 2) hx hb hXs hbl hbA hS hnL hL hA (by decide) (nI_add (8 * n) 2) dL_law_763 ?_
  refine lv_aload_n hx hb dL_law_764 rfl (lv_at hl 1 rfl) ?_
  refine lv_iload hx hb dL_law_765 (lv_at hl 0 rfl) ?_
  refine lv_iconst (v := 3) hx hb dL_law_767 (by decide) ?_
  refine lv_iadd hx hb dL_law_768 ?_
  refine lsd (k := 3) hx hb hXs hbl hbA hS hnL hL hA (by decide) (nI_add (8 * n) 3) dL_law_769 ?_
  refine lv_aload_n hx hb dL_law_770 rfl (lv_at hl 4 rfl) ?_
  refine lgW hx hb hml hts hown hB hE hS kwX_122 (w_handOver E ow x o h0 h1 fx ts f (A 1) (A 2) (A 3) H hX hV hK hJ ho hgo) (by decide) rfl hl.1 rfl (Nat.le_of_ble_eq_true rfl) (by omega) (by omega) dL_law_771 (fun v1 H1 L1 ho1 hz1 hE hS1 => ?_)
  obtain ⟨hv1, hw1⟩ := ho1
  subst hv1
  dsimp only [Option.toList, List.nil_append, List.cons_append]
  rcases hw1 with ⟨hcd, hw⟩ | ⟨hcd, hw⟩
  · obtain ⟨ow1, f1, hX1, hM1, hJ1, ho9, -⟩ := hw.go hMW hJ ho
    refine lv_istore (lv' := [(5, .int (nI (cdHnd ts (A 1) (A 2) (A 3)))), (4, .int (nI (8 * n))), (0, .ref b), (1, .ref x), (2, .ref mo), (3, .ref o)]) hx hb dL_law_774 hl (by decide) rfl (fun ls hl => ?_)
    refine lv_aload_n hx hb dL_law_776 rfl (lv_at hl 4 rfl) ?_
    refine lv_aload_n hx hb dL_law_777 rfl (lv_at hl 2 rfl) ?_
    refine lv_iload hx hb dL_law_778 (lv_at hl 1 rfl) ?_
    refine lv_iconst (v := 1) hx hb dL_law_780 (by decide) ?_
    refine lv_iadd hx hb dL_law_781 ?_
    refine lsd (k := 1) hx hb hXs hbl hbA hS1 hnL hL hA (by decide) (nI_add (8 * n) 1) dL_law_782 ?_
    refine lv_aload_n hx hb dL_law_783 rfl (lv_at hl 2 rfl) ?_
    refine lv_iload hx hb dL_law_784 (lv_at hl 1 rfl) ?_
    refine lv_iconst (v := 2) hx hb dL_law_786 (by decide) ?_
    refine lv_iadd hx hb dL_law_787 ?_
    refine lsd (k := 2) hx hb hXs hbl hbA hS1 hnL hL hA (by decide) (nI_add (8 * n) 2) dL_law_788 ?_
    refine lv_aload_n hx hb dL_law_789 rfl (lv_at hl 2 rfl) ?_
    refine lv_iload hx hb dL_law_790 (lv_at hl 1 rfl) ?_
    refine lv_iconst (v := 3) hx hb dL_law_792 (by decide) ?_
    refine lv_iadd hx hb dL_law_793 ?_
    refine lsd (k := 3) hx hb hXs hbl hbA hS1 hnL hL hA (by decide) (nI_add (8 * n) 3) dL_law_794 ?_
    obtain ⟨sc, ad, ar, hMR, hMI, hsc⟩ := hM1
    refine lgV hx hb hml hts hown hB hE hS1 kwL_124 (c_mhnd E ow1 mo sc ad ar h0 h1 fx ts B (A 1) (A 2) (A 3) H1 hMR hMI hV) hMR.1.1 rfl (by decide) rfl hl.1 rfl (Nat.le_of_ble_eq_true rfl) (by omega) (by omega) dL_law_795 (fun H2 L2 hG2 hz2 hE hS2 => ?_)
    have hG2 := (hG2.resolve_right (fun q => hcd q.1)).2
    obtain ⟨hX2, hM2, hJ2⟩ := hG2.go hX1 hJ1 ho9 (old9 hB hS1 hS2) hBF
    refine lv_istore (lv' := [(6, .int (if cdHnd ts (A 1) (A 2) (A 3) = 0 then ((trd ts (A 1)).elim 0 (fun tr => hldS tr.1 tr.2.2 (A 2))) else 0)), (5, .int (nI (cdHnd ts (A 1) (A 2) (A 3)))), (4, .int (nI (8 * n))), (0, .ref b), (1, .ref x), (2, .ref mo), (3, .ref o)]) hx hb dL_law_798 hl (by decide) rfl (fun ls hl => ?_)
    refine lv_aload_n hx hb dL_law_800 rfl (lv_at hl 5 rfl) ?_
    obtain ⟨sc2, ad2, ar2, hMR2, hMI2, hsc2⟩ := id hM2
    refine lpV hx hb hml hts hown hE kwL_93 (c_mthrown E mo sc2 ad2 ar2 H2 hMR2.1) hMR2.1.1 rfl (by decide) rfl hl.1 rfl (Nat.le_of_ble_eq_true rfl) (by omega) (by omega) dL_law_801 ?_
    rw [hsc2]
    refine lv_iload hx hb dL_law_804 (lv_at hl 1 rfl) ?_
    refine lv_icmp_eq (tgt := 811) hx hb dL_law_806 (by decide) (fun c5 => ?_) (fun c5 => ?_)
    rotate_left
    · exact absurd rfl c5
    refine lv_iload hx hb dL_law_811 (lv_at hl 1 rfl) ?_
    refine lv_if_ne (tgt := 828) hx hb dL_law_813 (by decide) (fun c6 => ?_) (fun c6 => ?_)
    rotate_left
    · exact absurd c6 (cd_ne (cdHnd_le _ _ _ _) hcd)
    refine lv_goto (tgt := 1599) hx hb dL_law_828 (by decide) ?_
    exact kk H2 L2 _ _ ls hE hS2 ⟨ow1, h0, h1, fx, ts, B, cdHnd ts (A 1) (A 2) (A 3), f1, hX2, hM2, hJ2, ho9, hV, by omega, by omega, by omega⟩ (lv_sub hl [2, 3, 4, 5, 6] rfl)
  · obtain ⟨tr, i9, et, ht, hw⟩ := hw
    obtain ⟨ow1, f1, hX1, hM1, hJ1, ho9, hP1⟩ := hw.go hMW hJ ho
    refine lv_istore (lv' := [(5, .int (nI (cdHnd ts (A 1) (A 2) (A 3)))), (4, .int (nI (8 * n))), (0, .ref b), (1, .ref x), (2, .ref mo), (3, .ref o)]) hx hb dL_law_774 hl (by decide) rfl (fun ls hl => ?_)
    refine lv_aload_n hx hb dL_law_776 rfl (lv_at hl 4 rfl) ?_
    refine lv_aload_n hx hb dL_law_777 rfl (lv_at hl 2 rfl) ?_
    refine lv_iload hx hb dL_law_778 (lv_at hl 1 rfl) ?_
    refine lv_iconst (v := 1) hx hb dL_law_780 (by decide) ?_
    refine lv_iadd hx hb dL_law_781 ?_
    refine lsd (k := 1) hx hb hXs hbl hbA hS1 hnL hL hA (by decide) (nI_add (8 * n) 1) dL_law_782 ?_
    refine lv_aload_n hx hb dL_law_783 rfl (lv_at hl 2 rfl) ?_
    refine lv_iload hx hb dL_law_784 (lv_at hl 1 rfl) ?_
    refine lv_iconst (v := 2) hx hb dL_law_786 (by decide) ?_
    refine lv_iadd hx hb dL_law_787 ?_
    refine lsd (k := 2) hx hb hXs hbl hbA hS1 hnL hL hA (by decide) (nI_add (8 * n) 2) dL_law_788 ?_
    refine lv_aload_n hx hb dL_law_789 rfl (lv_at hl 2 rfl) ?_
    refine lv_iload hx hb dL_law_790 (lv_at hl 1 rfl) ?_
    refine lv_iconst (v := 3) hx hb dL_law_792 (by decide) ?_
    refine lv_iadd hx hb dL_law_793 ?_
    refine lsd (k := 3) hx hb hXs hbl hbA hS1 hnL hL hA (by decide) (nI_add (8 * n) 3) dL_law_794 ?_
    obtain ⟨sc, ad, ar, hMR, hMI, hsc⟩ := hM1
    refine lgV hx hb hml hts hown hB hE hS1 kwL_124 (c_mhnd E ow1 mo sc ad ar h0 h1 fx ts B (A 1) (A 2) (A 3) H1 hMR hMI hV) hMR.1.1 rfl (by decide) rfl hl.1 rfl (Nat.le_of_ble_eq_true rfl) (by omega) (by omega) dL_law_795 (fun H2 L2 hG2 hz2 hE hS2 => ?_)
    obtain ⟨tr9, j9, et9, ht9, hG2⟩ := (hG2.resolve_left (fun q => q.1 hcd)).2
    obtain ⟨ej9, etr9⟩ := same_tr hV et ht et9 ht9
    subst ej9 etr9
    obtain ⟨hX2, hM2, hJ2⟩ := hG2.go hX1 hJ1 ho9 (old9 hB hS1 hS2) hBF
    have hVn := sv_hnd hV et ht hcd
    have hzn := zc_hnd (hs := tr9.2.2 ++ [(A 2, A 3)]) ht
    have etr := trd_at hV et ht
    refine lv_istore (lv' := [(6, .int (if cdHnd ts (A 1) (A 2) (A 3) = 0 then ((trd ts (A 1)).elim 0 (fun tr => hldS tr.1 tr.2.2 (A 2))) else 0)), (5, .int (nI (cdHnd ts (A 1) (A 2) (A 3)))), (4, .int (nI (8 * n))), (0, .ref b), (1, .ref x), (2, .ref mo), (3, .ref o)]) hx hb dL_law_798 hl (by decide) rfl (fun ls hl => ?_)
    refine lv_aload_n hx hb dL_law_800 rfl (lv_at hl 5 rfl) ?_
    obtain ⟨sc2, ad2, ar2, hMR2, hMI2, hsc2⟩ := id hM2
    refine lpV hx hb hml hts hown hE kwL_93 (c_mthrown E mo sc2 ad2 ar2 H2 hMR2.1) hMR2.1.1 rfl (by decide) rfl hl.1 rfl (Nat.le_of_ble_eq_true rfl) (by omega) (by omega) dL_law_801 ?_
    rw [hsc2]
    refine lv_iload hx hb dL_law_804 (lv_at hl 1 rfl) ?_
    refine lv_icmp_eq (tgt := 811) hx hb dL_law_806 (by decide) (fun c5 => ?_) (fun c5 => ?_)
    rotate_left
    · exact absurd (by rw [hcd]) c5
    refine lv_iload hx hb dL_law_811 (lv_at hl 1 rfl) ?_
    refine lv_if_ne (tgt := 828) hx hb dL_law_813 (by decide) (fun c6 => ?_) (fun c6 => ?_)
    · exact absurd (by rw [hcd]; rfl) c6
    refine lv_aload_n hx hb dL_law_816 rfl (lv_at hl 6 rfl) ?_
    refine lv_iconst (v := 0) hx hb dL_law_817 (by decide) ?_
    refine aJ0 hx hb hE hJ2 dL_law_818 ?_
    refine lv_iload hx hb dL_law_819 (lv_at hl 0 rfl) ?_
    refine lv_i2l hx hb dL_law_821 rfl ?_
    refine W.lcmp hx hb dL_law_822 ?_
    refine lv_if_eq (tgt := 828) hx hb dL_law_823 (by decide) (fun c7 => ?_) (fun c7 => ?_)
    rotate_left
    · exact absurd (lcmp_eq0.mpr (by rw [if_pos hcd, etr]; exact hP1)) c7
    refine lv_goto (tgt := 1599) hx hb dL_law_828 (by decide) ?_
    exact kk H2 L2 _ _ ls hE hS2 ⟨ow1, h0, h1, fx, (ts.set j9 (tr9.1, tr9.2.1, tr9.2.2 ++ [(A 2, A 3)])), B, 0, f1, hX2, hM2, hJ2, ho9, hVn, by omega, by omega, by omega⟩ (lv_sub hl [2, 3, 4, 5, 6] rfl)
