set_option maxRecDepth 100000 in
set_option maxHeartbeats 4000000 in
/-- start -/
theorem lc_11 {p : Program} {e : Env} {s : State} {m : MethodId} {below : List Frame} {meth : Method} {c : Code} {Q : State → Prop} {b L n : Nat} {xs A : Nat → Int32} {E : ET} {x mo o cells slots : Nat} {H : Heap} {locs : List Loc} {ls : Array Slot} (hC : LX p s m c b L n xs A E o) (hE : EV E s H) (hS : va_S (fr E) s.heap H locs) (hI : LI E x mo o n cells slots H) (hl : lv_has ls 8 [(4, .int (nI (8 * n))), (0, .ref b), (1, .ref x), (2, .ref mo), (3, .ref o)])
    (kk : ∀ (H1 : Heap) (locs1 : List Loc) (cells1 slots1 : Nat) (ls1 : Array Slot), EV E s H1 → va_S (fr E) s.heap H1 locs1 → LI E x mo o (n + 1) cells1 slots1 H1 → lv_has ls1 8 [(4, .int (nI (8 * n))), (0, .ref b), (1, .ref x), (2, .ref mo), (3, .ref o)] → W p (eL E) e room_1 s m #[Value.ref b] below meth c H1 locs1 cells1 slots1 Q (F0 m 1599 ls1 [])) : W p (eL E) e room_1 s m #[Value.ref b] below meth c H locs cells slots Q (F0 m 900 ls []) := by
  obtain ⟨hx, hb, hml, hown, hts, hBE, hXs, hbl, hgo, hnL, hL, hA⟩ := hC
  obtain ⟨ow, h0, h1, fx, ts, B, c9, f, hX, hMW, hJ, ho, hV, hBl, hcl, hsl⟩ := hI
  have hB : eB E ≤ s.heap.size := Nat.le_of_eq hBE
  have hbA : ¬ fr E b := by show ¬ eB E ≤ b; omega
  have hBF := hE.2.2.1
  have htn := hV.tn
  have hzl := zc_le ts
  have hbl9 := hMW.bl
  have hK : BL ts := fun tr ht => by have := hbl9 tr ht; omega
  refine lv_aload_n hx hb dL_law_900 rfl (lv_at hl 2 rfl) ?_
  refine lv_aload_n hx hb dL_law_901 rfl (lv_at hl 1 rfl) ?_
  refine lv_iload hx hb dL_law_902 (lv_at hl 0 rfl) ?_
  refine lv_iconst (v := 1) hx hb dL_law_904 (by decide) ?_
  refine lv_iadd hx hb dL_law_905 ?_
  refine lsd (k := 1) hx hb hXs hbl hbA hS hnL hL hA (by decide) (nI_add (8 * n) 1) dL_law_906 ?_
  refine lv_aload_n hx hb dL_law_907 rfl (lv_at hl 1 rfl) ?_
  refine lv_iload hx hb dL_law_908 (lv_at hl 0 rfl) ?_
  refine lv_iconst (v := 2) hx hb dL_law_910 (by decide) ?_
  refine lv_iadd hx hb dL_law_911 ?_
  refine lsd (k := 2) hx hb hXs hbl hbA hS hnL hL hA (by decide) (nI_add (8 * n) 2) dL_law_912 ?_
  refine lv_aload_n hx hb dL_law_913 rfl (lv_at hl 4 rfl) ?_
  refine lgW hx hb hml hts hown hB hE hS kwX_132 (w_start E ow x o h0 h1 fx ts f (A 1) (A 2) H hX hV hK hJ ho hgo) (by decide) rfl hl.1 rfl (Nat.le_of_ble_eq_true rfl) (by omega) (by omega) dL_law_914 (fun v1 H1 L1 ho1 hz1 hE hS1 => ?_)
  obtain ⟨hv1, hw1⟩ := ho1
  subst hv1
  dsimp only [Option.toList, List.nil_append, List.cons_append]
  obtain ⟨ow1, f1, hX1, hM1, hJ1, ho9, hP1⟩ := rd_go hw1 hMW hJ ho
  refine lv_istore (lv' := [(5, .int (nI (cdPd ts (A 1) (A 2)))), (4, .int (nI (8 * n))), (0, .ref b), (1, .ref x), (2, .ref mo), (3, .ref o)]) hx hb dL_law_917 hl (by decide) rfl (fun ls hl => ?_)
  refine lv_aload_n hx hb dL_law_919 rfl (lv_at hl 4 rfl) ?_
  refine lv_aload_n hx hb dL_law_920 rfl (lv_at hl 2 rfl) ?_
  refine lv_iload hx hb dL_law_921 (lv_at hl 1 rfl) ?_
  refine lv_iconst (v := 1) hx hb dL_law_923 (by decide) ?_
  refine lv_iadd hx hb dL_law_924 ?_
  refine lsd (k := 1) hx hb hXs hbl hbA hS1 hnL hL hA (by decide) (nI_add (8 * n) 1) dL_law_925 ?_
  refine lv_aload_n hx hb dL_law_926 rfl (lv_at hl 2 rfl) ?_
  refine lv_iload hx hb dL_law_927 (lv_at hl 1 rfl) ?_
  refine lv_iconst (v := 2) hx hb dL_law_929 (by decide) ?_
  refine lv_iadd hx hb dL_law_930 ?_
  refine lsd (k := 2) hx hb hXs hbl hbA hS1 hnL hL hA (by decide) (nI_add (8 * n) 2) dL_law_931 ?_
  obtain ⟨sc, ad, ar, hMR, hMI, hsc⟩ := hM1
  refine lgV hx hb hml hts hown hB hE hS1 kwL_134 (c_mstart E ow1 mo sc ad ar h0 h1 fx ts B (A 1) (A 2) H1 hMR hMI hV) hMR.1.1 rfl (by decide) rfl hl.1 rfl (Nat.le_of_ble_eq_true rfl) (by omega) (by omega) dL_law_932 (fun H2 L2 hG2 hz2 hE hS2 => ?_)
  obtain ⟨hX2, hM2, hJ2⟩ := hG2.go hX1 hJ1 ho9 (old9 hB hS1 hS2) hBF
  refine lv_istore (lv' := [(6, .int (if cdPd ts (A 1) (A 2) = 0 then ((trd ts (A 1)).bind (fun tr => (prd tr (A 2)).map (fun j => bfC h0 h1 tr.1 j))).getD 0 else 0)), (5, .int (nI (cdPd ts (A 1) (A 2)))), (4, .int (nI (8 * n))), (0, .ref b), (1, .ref x), (2, .ref mo), (3, .ref o)]) hx hb dL_law_935 hl (by decide) rfl (fun ls hl => ?_)
  refine lv_aload_n hx hb dL_law_937 rfl (lv_at hl 5 rfl) ?_
  obtain ⟨sc2, ad2, ar2, hMR2, hMI2, hsc2⟩ := id hM2
  refine lpV hx hb hml hts hown hE kwL_93 (c_mthrown E mo sc2 ad2 ar2 H2 hMR2.1) hMR2.1.1 rfl (by decide) rfl hl.1 rfl (Nat.le_of_ble_eq_true rfl) (by omega) (by omega) dL_law_938 ?_
  rw [hsc2]
  refine lv_iload hx hb dL_law_941 (lv_at hl 1 rfl) ?_
  refine lv_icmp_eq (tgt := 948) hx hb dL_law_943 (by decide) (fun c5 => ?_) (fun c5 => ?_)
  rotate_left
  · exact absurd rfl c5
  refine lv_iload hx hb dL_law_948 (lv_at hl 1 rfl) ?_
  refine lv_if_ne (tgt := 965) hx hb dL_law_950 (by decide) (fun c6 => ?_) (fun c6 => ?_)
  · refine lv_goto (tgt := 1599) hx hb dL_law_965 (by decide) ?_
    exact kk H2 L2 _ _ ls hE hS2 ⟨ow1, h0, h1, fx, ts, B, cdPd ts (A 1) (A 2), f1, hX2, hM2, hJ2, ho9, hV, by omega, by omega, by omega⟩ (lv_sub hl [2, 3, 4, 5, 6] rfl)
  · have hcd := cd0 (Nat.le_trans (cdPd_le _ _ _) (by decide)) c6
    refine lv_aload_n hx hb dL_law_953 rfl (lv_at hl 6 rfl) ?_
    refine lv_iconst (v := 0) hx hb dL_law_954 (by decide) ?_
    refine aJ0 hx hb hE hJ2 dL_law_955 ?_
    refine lv_iload hx hb dL_law_956 (lv_at hl 0 rfl) ?_
    refine lv_i2l hx hb dL_law_958 rfl ?_
    refine W.lcmp hx hb dL_law_959 ?_
    refine lv_if_eq (tgt := 965) hx hb dL_law_960 (by decide) (fun c7 => ?_) (fun c7 => ?_)
    rotate_left
    · exact absurd (lcmp_eq0.mpr (by rw [if_pos hcd]; exact hP1 hcd)) c7
    refine lv_goto (tgt := 1599) hx hb dL_law_965 (by decide) ?_
    exact kk H2 L2 _ _ ls hE hS2 ⟨ow1, h0, h1, fx, ts, B, cdPd ts (A 1) (A 2), f1, hX2, hM2, hJ2, ho9, hV, by omega, by omega, by omega⟩ (lv_sub hl [2, 3, 4, 5, 6] rfl)

set_option maxRecDepth 100000 in
set_option maxHeartbeats 4000000 in
/-- end -/
theorem lc_12 {p : Program} {e : Env} {s : State} {m : MethodId} {below : List Frame} {meth : Method} {c : Code} {Q : State → Prop} {b L n : Nat} {xs A : Nat → Int32} {E : ET} {x mo o cells slots : Nat} {H : Heap} {locs : List Loc} {ls : Array Slot} (hC : LX p s m c b L n xs A E o) (hE : EV E s H) (hS : va_S (fr E) s.heap H locs) (hI : LI E x mo o n cells slots H) (hl : lv_has ls 8 [(4, .int (nI (8 * n))), (0, .ref b), (1, .ref x), (2, .ref mo), (3, .ref o)])
    (kk : ∀ (H1 : Heap) (locs1 : List Loc) (cells1 slots1 : Nat) (ls1 : Array Slot), EV E s H1 → va_S (fr E) s.heap H1 locs1 → LI E x mo o (n + 1) cells1 slots1 H1 → lv_has ls1 8 [(4, .int (nI (8 * n))), (0, .ref b), (1, .ref x), (2, .ref mo), (3, .ref o)] → W p (eL E) e room_1 s m #[Value.ref b] below meth c H1 locs1 cells1 slots1 Q (F0 m 1599 ls1 [])) : W p (eL E) e room_1 s m #[Value.ref b] below meth c H locs cells slots Q (F0 m 968 ls []) := by
  obtain ⟨hx, hb, hml, hown, hts, hBE, hXs, hbl, hgo, hnL, hL, hA⟩ := hC
  obtain ⟨ow, h0, h1, fx, ts, B, c9, f, hX, hMW, hJ, ho, hV, hBl, hcl, hsl⟩ := hI
  have hB : eB E ≤ s.heap.size := Nat.le_of_eq hBE
  have hbA : ¬ fr E b := by show ¬ eB E ≤ b; omega
  have hBF := hE.2.2.1
  have htn := hV.tn
  have hzl := zc_le ts
  have hbl9 := hMW.bl
  have hK : BL ts := fun tr ht => by have := hbl9 tr ht; omega
  refine lv_aload_n hx hb dL_law_968 rfl (lv_at hl 2 rfl) ?_
  refine lv_aload_n hx hb dL_law_969 rfl (lv_at hl 1 rfl) ?_
  refine lv_iload hx hb dL_law_970 (lv_at hl 0 rfl) ?_
  refine lv_iconst (v := 1) hx hb dL_law_972 (by decide) ?_
  refine lv_iadd hx hb dL_law_973 ?_
  refine lsd (k := 1) hx hb hXs hbl hbA hS hnL hL hA (by decide) (nI_add (8 * n) 1) dL_law_974 ?_
  refine lv_aload_n hx hb dL_law_975 rfl (lv_at hl 1 rfl) ?_
  refine lv_iload hx hb dL_law_976 (lv_at hl 0 rfl) ?_
  refine lv_iconst (v := 2) hx hb dL_law_978 (by decide) ?_
  refine lv_iadd hx hb dL_law_979 ?_
  refine lsd (k := 2) hx hb hXs hbl hbA hS hnL hL hA (by decide) (nI_add (8 * n) 2) dL_law_980 ?_
  refine lv_aload_n hx hb dL_law_981 rfl (lv_at hl 4 rfl) ?_
  refine lgW hx hb hml hts hown hB hE hS kwX_135 (w_end E ow x o h0 h1 fx ts f (A 1) (A 2) H hX hV hK hJ ho hgo) (by decide) rfl hl.1 rfl (Nat.le_of_ble_eq_true rfl) (by omega) (by omega) dL_law_982 (fun v1 H1 L1 ho1 hz1 hE hS1 => ?_)
  obtain ⟨hv1, hw1⟩ := ho1
  subst hv1
  dsimp only [Option.toList, List.nil_append, List.cons_append]
  obtain ⟨ow1, f1, hX1, hM1, hJ1, ho9, hP1⟩ := rd_go hw1 hMW hJ ho
  refine lv_istore (lv' := [(5, .int (nI (cdPd ts (A 1) (A 2)))), (4, .int (nI (8 * n))), (0, .ref b), (1, .ref x), (2, .ref mo), (3, .ref o)]) hx hb dL_law_985 hl (by decide) rfl (fun ls hl => ?_)
  refine lv_aload_n hx hb dL_law_987 rfl (lv_at hl 4 rfl) ?_
  refine lv_aload_n hx hb dL_law_988 rfl (lv_at hl 2 rfl) ?_
  refine lv_iload hx hb dL_law_989 (lv_at hl 1 rfl) ?_
  refine lv_iconst (v := 1) hx hb dL_law_991 (by decide) ?_
  refine lv_iadd hx hb dL_law_992 ?_
  refine lsd (k := 1) hx hb hXs hbl hbA hS1 hnL hL hA (by decide) (nI_add (8 * n) 1) dL_law_993 ?_
  refine lv_aload_n hx hb dL_law_994 rfl (lv_at hl 2 rfl) ?_
  refine lv_iload hx hb dL_law_995 (lv_at hl 1 rfl) ?_
  refine lv_iconst (v := 2) hx hb dL_law_997 (by decide) ?_
  refine lv_iadd hx hb dL_law_998 ?_
  refine lsd (k := 2) hx hb hXs hbl hbA hS1 hnL hL hA (by decide) (nI_add (8 * n) 2) dL_law_999 ?_
  obtain ⟨sc, ad, ar, hMR, hMI, hsc⟩ := hM1
  refine lgV hx hb hml hts hown hB hE hS1 kwL_137 (c_mend E ow1 mo sc ad ar h0 h1 fx ts B (A 1) (A 2) H1 hMR hMI hV) hMR.1.1 rfl (by decide) rfl hl.1 rfl (Nat.le_of_ble_eq_true rfl) (by omega) (by omega) dL_law_1000 (fun H2 L2 hG2 hz2 hE hS2 => ?_)
  obtain ⟨hX2, hM2, hJ2⟩ := hG2.go hX1 hJ1 ho9 (old9 hB hS1 hS2) hBF
  refine lv_istore (lv' := [(6, .int (if cdPd ts (A 1) (A 2) = 0 then ((trd ts (A 1)).bind (fun tr => (prd tr (A 2)).map (fun j => bfC h0 h1 tr.1 (j + 1)))).getD 0 else 0)), (5, .int (nI (cdPd ts (A 1) (A 2)))), (4, .int (nI (8 * n))), (0, .ref b), (1, .ref x), (2, .ref mo), (3, .ref o)]) hx hb dL_law_1003 hl (by decide) rfl (fun ls hl => ?_)
  refine lv_aload_n hx hb dL_law_1005 rfl (lv_at hl 5 rfl) ?_
  obtain ⟨sc2, ad2, ar2, hMR2, hMI2, hsc2⟩ := id hM2
  refine lpV hx hb hml hts hown hE kwL_93 (c_mthrown E mo sc2 ad2 ar2 H2 hMR2.1) hMR2.1.1 rfl (by decide) rfl hl.1 rfl (Nat.le_of_ble_eq_true rfl) (by omega) (by omega) dL_law_1006 ?_
  rw [hsc2]
  refine lv_iload hx hb dL_law_1009 (lv_at hl 1 rfl) ?_
  refine lv_icmp_eq (tgt := 1016) hx hb dL_law_1011 (by decide) (fun c5 => ?_) (fun c5 => ?_)
  rotate_left
  · exact absurd rfl c5
  refine lv_iload hx hb dL_law_1016 (lv_at hl 1 rfl) ?_
  refine lv_if_ne (tgt := 1033) hx hb dL_law_1018 (by decide) (fun c6 => ?_) (fun c6 => ?_)
  · refine lv_goto (tgt := 1599) hx hb dL_law_1033 (by decide) ?_
    exact kk H2 L2 _ _ ls hE hS2 ⟨ow1, h0, h1, fx, ts, B, cdPd ts (A 1) (A 2), f1, hX2, hM2, hJ2, ho9, hV, by omega, by omega, by omega⟩ (lv_sub hl [2, 3, 4, 5, 6] rfl)
  · have hcd := cd0 (Nat.le_trans (cdPd_le _ _ _) (by decide)) c6
    refine lv_aload_n hx hb dL_law_1021 rfl (lv_at hl 6 rfl) ?_
    refine lv_iconst (v := 0) hx hb dL_law_1022 (by decide) ?_
    refine aJ0 hx hb hE hJ2 dL_law_1023 ?_
    refine lv_iload hx hb dL_law_1024 (lv_at hl 0 rfl) ?_
    refine lv_i2l hx hb dL_law_1026 rfl ?_
    refine W.lcmp hx hb dL_law_1027 ?_
    refine lv_if_eq (tgt := 1033) hx hb dL_law_1028 (by decide) (fun c7 => ?_) (fun c7 => ?_)
    rotate_left
    · exact absurd (lcmp_eq0.mpr (by rw [if_pos hcd]; exact hP1 hcd)) c7
    refine lv_goto (tgt := 1599) hx hb dL_law_1033 (by decide) ?_
    exact kk H2 L2 _ _ ls hE hS2 ⟨ow1, h0, h1, fx, ts, B, cdPd ts (A 1) (A 2), f1, hX2, hM2, hJ2, ho9, hV, by omega, by omega, by omega⟩ (lv_sub hl [2, 3, 4, 5, 6] rfl)

set_option maxRecDepth 100000 in
set_option maxHeartbeats 4000000 in
/-- lots -/
theorem lc_13 {p : Program} {e : Env} {s : State} {m : MethodId} {below : List Frame} {meth : Method} {c : Code} {Q : State → Prop} {b L n : Nat} {xs A : Nat → Int32} {E : ET} {x mo o cells slots : Nat} {H : Heap} {locs : List Loc} {ls : Array Slot} (hC : LX p s m c b L n xs A E o) (hE : EV E s H) (hS : va_S (fr E) s.heap H locs) (hI : LI E x mo o n cells slots H) (hl : lv_has ls 8 [(4, .int (nI (8 * n))), (0, .ref b), (1, .ref x), (2, .ref mo), (3, .ref o)])
    (kk : ∀ (H1 : Heap) (locs1 : List Loc) (cells1 slots1 : Nat) (ls1 : Array Slot), EV E s H1 → va_S (fr E) s.heap H1 locs1 → LI E x mo o (n + 1) cells1 slots1 H1 → lv_has ls1 8 [(4, .int (nI (8 * n))), (0, .ref b), (1, .ref x), (2, .ref mo), (3, .ref o)] → W p (eL E) e room_1 s m #[Value.ref b] below meth c H1 locs1 cells1 slots1 Q (F0 m 1599 ls1 [])) : W p (eL E) e room_1 s m #[Value.ref b] below meth c H locs cells slots Q (F0 m 1036 ls []) := by
  obtain ⟨hx, hb, hml, hown, hts, hBE, hXs, hbl, hgo, hnL, hL, hA⟩ := hC
  obtain ⟨ow, h0, h1, fx, ts, B, c9, f, hX, hMW, hJ, ho, hV, hBl, hcl, hsl⟩ := hI
  have hB : eB E ≤ s.heap.size := Nat.le_of_eq hBE
  have hbA : ¬ fr E b := by show ¬ eB E ≤ b; omega
  have hBF := hE.2.2.1
  have htn := hV.tn
  have hzl := zc_le ts
  have hbl9 := hMW.bl
  have hK : BL ts := fun tr ht => by have := hbl9 tr ht; omega
  refine lv_aload_n hx hb dL_law_1036 rfl (lv_at hl 2 rfl) ?_
  refine lv_aload_n hx hb dL_law_1037 rfl (lv_at hl 1 rfl) ?_
  refine lv_iload hx hb dL_law_1038 (lv_at hl 0 rfl) ?_
  refine lv_iconst (v := 1) hx hb dL_law_1040 (by decide) ?_
  refine lv_iadd hx hb dL_law_1041 ?_
  refine lsd (k := 1) hx hb hXs hbl hbA hS hnL hL hA (by decide) (nI_add (8 * n) 1) dL_law_1042 ?_
  refine lv_aload_n hx hb dL_law_1043 rfl (lv_at hl 1 rfl) ?_
  refine lv_iload hx hb dL_law_1044 (lv_at hl 0 rfl) ?_
  refine lv_iconst (v := 2) hx hb dL_law_1046 (by decide) ?_
  refine lv_iadd hx hb dL_law_1047 ?_
  refine lsd (k := 2) hx hb hXs hbl hbA hS hnL hL hA (by decide) (nI_add (8 * n) 2) dL_law_1048 ?_
  refine lv_aload_n hx hb dL_law_1049 rfl (lv_at hl 4 rfl) ?_
  refine lgW hx hb hml hts hown hB hE hS kwX_138 (w_lots E ow x o h0 h1 fx ts f (A 1) (A 2) H hX hV hK hJ ho hgo) (by decide) rfl hl.1 rfl (Nat.le_of_ble_eq_true rfl) (by omega) (by omega) dL_law_1050 (fun v1 H1 L1 ho1 hz1 hE hS1 => ?_)
  obtain ⟨hv1, hw1⟩ := ho1
  subst hv1
  dsimp only [Option.toList, List.nil_append, List.cons_append]
  obtain ⟨ow1, f1, hX1, hM1, hJ1, ho9, hP1⟩ := rd_go hw1 hMW hJ ho
  refine lv_istore (lv' := [(5, .int (nI (cdPd ts (A 1) (A 2)))), (4, .int (nI (8 * n))), (0, .ref b), (1, .ref x), (2, .ref mo), (3, .ref o)]) hx hb dL_law_1053 hl (by decide) rfl (fun ls hl => ?_)
  refine lv_aload_n hx hb dL_law_1055 rfl (lv_at hl 4 rfl) ?_
  refine lv_aload_n hx hb dL_law_1056 rfl (lv_at hl 2 rfl) ?_
  refine lv_iload hx hb dL_law_1057 (lv_at hl 1 rfl) ?_
  refine lv_iconst (v := 1) hx hb dL_law_1059 (by decide) ?_
  refine lv_iadd hx hb dL_law_1060 ?_
  refine lsd (k := 1) hx hb hXs hbl hbA hS1 hnL hL hA (by decide) (nI_add (8 * n) 1) dL_law_1061 ?_
  refine lv_aload_n hx hb dL_law_1062 rfl (lv_at hl 2 rfl) ?_
  refine lv_iload hx hb dL_law_1063 (lv_at hl 1 rfl) ?_
  refine lv_iconst (v := 2) hx hb dL_law_1065 (by decide) ?_
  refine lv_iadd hx hb dL_law_1066 ?_
  refine lsd (k := 2) hx hb hXs hbl hbA hS1 hnL hL hA (by decide) (nI_add (8 * n) 2) dL_law_1067 ?_
  obtain ⟨sc, ad, ar, hMR, hMI, hsc⟩ := hM1
  refine lgV hx hb hml hts hown hB hE hS1 kwL_140 (c_mlotsp E ow1 mo sc ad ar h0 h1 fx ts B (A 1) (A 2) H1 hMR hMI hV) hMR.1.1 rfl (by decide) rfl hl.1 rfl (Nat.le_of_ble_eq_true rfl) (by omega) (by omega) dL_law_1068 (fun H2 L2 hG2 hz2 hE hS2 => ?_)
  obtain ⟨hX2, hM2, hJ2⟩ := hG2.go hX1 hJ1 ho9 (old9 hB hS1 hS2) hBF
  refine lv_istore (lv' := [(6, .int (if cdPd ts (A 1) (A 2) = 0 then ((trd ts (A 1)).bind (fun tr => (prd tr (A 2)).map (fun j => lotS tr.1 tr.2.1 (bfC h0 h1 tr.1) j))).getD 0 else 0)), (5, .int (nI (cdPd ts (A 1) (A 2)))), (4, .int (nI (8 * n))), (0, .ref b), (1, .ref x), (2, .ref mo), (3, .ref o)]) hx hb dL_law_1071 hl (by decide) rfl (fun ls hl => ?_)
  refine lv_aload_n hx hb dL_law_1073 rfl (lv_at hl 5 rfl) ?_
  obtain ⟨sc2, ad2, ar2, hMR2, hMI2, hsc2⟩ := id hM2
  refine lpV hx hb hml hts hown hE kwL_93 (c_mthrown E mo sc2 ad2 ar2 H2 hMR2.1) hMR2.1.1 rfl (by decide) rfl hl.1 rfl (Nat.le_of_ble_eq_true rfl) (by omega) (by omega) dL_law_1074 ?_
  rw [hsc2]
  refine lv_iload hx hb dL_law_1077 (lv_at hl 1 rfl) ?_
  refine lv_icmp_eq (tgt := 1084) hx hb dL_law_1079 (by decide) (fun c5 => ?_) (fun c5 => ?_)
  rotate_left
  · exact absurd rfl c5
  refine lv_iload hx hb dL_law_1084 (lv_at hl 1 rfl) ?_
  refine lv_if_ne (tgt := 1101) hx hb dL_law_1086 (by decide) (fun c6 => ?_) (fun c6 => ?_)
  · refine lv_goto (tgt := 1599) hx hb dL_law_1101 (by decide) ?_
    exact kk H2 L2 _ _ ls hE hS2 ⟨ow1, h0, h1, fx, ts, B, cdPd ts (A 1) (A 2), f1, hX2, hM2, hJ2, ho9, hV, by omega, by omega, by omega⟩ (lv_sub hl [2, 3, 4, 5, 6] rfl)
  · have hcd := cd0 (Nat.le_trans (cdPd_le _ _ _) (by decide)) c6
    refine lv_aload_n hx hb dL_law_1089 rfl (lv_at hl 6 rfl) ?_
    refine lv_iconst (v := 0) hx hb dL_law_1090 (by decide) ?_
    refine aJ0 hx hb hE hJ2 dL_law_1091 ?_
    refine lv_iload hx hb dL_law_1092 (lv_at hl 0 rfl) ?_
    refine lv_i2l hx hb dL_law_1094 rfl ?_
    refine W.lcmp hx hb dL_law_1095 ?_
    refine lv_if_eq (tgt := 1101) hx hb dL_law_1096 (by decide) (fun c7 => ?_) (fun c7 => ?_)
    rotate_left
    · exact absurd (lcmp_eq0.mpr (by rw [if_pos hcd]; exact hP1 hcd)) c7
    refine lv_goto (tgt := 1599) hx hb dL_law_1101 (by decide) ?_
    exact kk H2 L2 _ _ ls hE hS2 ⟨ow1, h0, h1, fx, ts, B, cdPd ts (A 1) (A 2), f1, hX2, hM2, hJ2, ho9, hV, by omega, by omega, by omega⟩ (lv_sub hl [2, 3, 4, 5, 6] rfl)

set_option maxRecDepth 100000 in
set_option maxHeartbeats 4000000 in
/-- floating -/
theorem lc_14 {p : Program} {e : Env} {s : State} {m : MethodId} {below : List Frame} {meth : Method} {c : Code} {Q : State → Prop} {b L n : Nat} {xs A : Nat → Int32} {E : ET} {x mo o cells slots : Nat} {H : Heap} {locs : List Loc} {ls : Array Slot} (hC : LX p s m c b L n xs A E o) (hE : EV E s H) (hS : va_S (fr E) s.heap H locs) (hI : LI E x mo o n cells slots H) (hl : lv_has ls 8 [(4, .int (nI (8 * n))), (0, .ref b), (1, .ref x), (2, .ref mo), (3, .ref o)])
    (kk : ∀ (H1 : Heap) (locs1 : List Loc) (cells1 slots1 : Nat) (ls1 : Array Slot), EV E s H1 → va_S (fr E) s.heap H1 locs1 → LI E x mo o (n + 1) cells1 slots1 H1 → lv_has ls1 8 [(4, .int (nI (8 * n))), (0, .ref b), (1, .ref x), (2, .ref mo), (3, .ref o)] → W p (eL E) e room_1 s m #[Value.ref b] below meth c H1 locs1 cells1 slots1 Q (F0 m 1599 ls1 [])) : W p (eL E) e room_1 s m #[Value.ref b] below meth c H locs cells slots Q (F0 m 1104 ls []) := by
  obtain ⟨hx, hb, hml, hown, hts, hBE, hXs, hbl, hgo, hnL, hL, hA⟩ := hC
  obtain ⟨ow, h0, h1, fx, ts, B, c9, f, hX, hMW, hJ, ho, hV, hBl, hcl, hsl⟩ := hI
  have hB : eB E ≤ s.heap.size := Nat.le_of_eq hBE
  have hbA : ¬ fr E b := by show ¬ eB E ≤ b; omega
  have hBF := hE.2.2.1
  have htn := hV.tn
  have hzl := zc_le ts
  have hbl9 := hMW.bl
  have hK : BL ts := fun tr ht => by have := hbl9 tr ht; omega
  refine lv_aload_n hx hb dL_law_1104 rfl (lv_at hl 2 rfl) ?_
  refine lv_aload_n hx hb dL_law_1105 rfl (lv_at hl 1 rfl) ?_
  refine lv_iload hx hb dL_law_1106 (lv_at hl 0 rfl) ?_
  refine lv_iconst (v := 1) hx hb dL_law_1108 (by decide) ?_
  refine lv_iadd hx hb dL_law_1109 ?_
  refine lsd (k := 1) hx hb hXs hbl hbA hS hnL hL hA (by decide) (nI_add (8 * n) 1) dL_law_1110 ?_
  refine lv_aload_n hx hb dL_law_1111 rfl (lv_at hl 1 rfl) ?_
  refine lv_iload hx hb dL_law_1112 (lv_at hl 0 rfl) ?_
  refine lv_iconst (v := 2) hx hb dL_law_1114 (by decide) ?_
  refine lv_iadd hx hb dL_law_1115 ?_
  refine lsd (k := 2) hx hb hXs hbl hbA hS hnL hL hA (by decide) (nI_add (8 * n) 2) dL_law_1116 ?_
  refine lv_aload_n hx hb dL_law_1117 rfl (lv_at hl 4 rfl) ?_
  refine lgW hx hb hml hts hown hB hE hS kwX_141 (w_floating E ow x o h0 h1 fx ts f (A 1) (A 2) H hX hV hK hJ ho hgo) (by decide) rfl hl.1 rfl (Nat.le_of_ble_eq_true rfl) (by omega) (by omega) dL_law_1118 (fun v1 H1 L1 ho1 hz1 hE hS1 => ?_)
  obtain ⟨hv1, hw1⟩ := ho1
  subst hv1
  dsimp only [Option.toList, List.nil_append, List.cons_append]
  obtain ⟨ow1, f1, hX1, hM1, hJ1, ho9, hP1⟩ := rd_go hw1 hMW hJ ho
  refine lv_istore (lv' := [(5, .int (nI (cdPd ts (A 1) (A 2)))), (4, .int (nI (8 * n))), (0, .ref b), (1, .ref x), (2, .ref mo), (3, .ref o)]) hx hb dL_law_1121 hl (by decide) rfl (fun ls hl => ?_)
  refine lv_aload_n hx hb dL_law_1123 rfl (lv_at hl 4 rfl) ?_
  refine lv_aload_n hx hb dL_law_1124 rfl (lv_at hl 2 rfl) ?_
  refine lv_iload hx hb dL_law_1125 (lv_at hl 1 rfl) ?_
  refine lv_iconst (v := 1) hx hb dL_law_1127 (by decide) ?_
  refine lv_iadd hx hb dL_law_1128 ?_
  refine lsd (k := 1) hx hb hXs hbl hbA hS1 hnL hL hA (by decide) (nI_add (8 * n) 1) dL_law_1129 ?_
  refine lv_aload_n hx hb dL_law_1130 rfl (lv_at hl 2 rfl) ?_
  refine lv_iload hx hb dL_law_1131 (lv_at hl 1 rfl) ?_
  refine lv_iconst (v := 2) hx hb dL_law_1133 (by decide) ?_
  refine lv_iadd hx hb dL_law_1134 ?_
  refine lsd (k := 2) hx hb hXs hbl hbA hS1 hnL hL hA (by decide) (nI_add (8 * n) 2) dL_law_1135 ?_
  obtain ⟨sc, ad, ar, hMR, hMI, hsc⟩ := hM1
  refine lgV hx hb hml hts hown hB hE hS1 kwL_143 (c_mfloatp E ow1 mo sc ad ar h0 h1 fx ts B (A 1) (A 2) H1 hMR hMI hV) hMR.1.1 rfl (by decide) rfl hl.1 rfl (Nat.le_of_ble_eq_true rfl) (by omega) (by omega) dL_law_1136 (fun H2 L2 hG2 hz2 hE hS2 => ?_)
  obtain ⟨hX2, hM2, hJ2⟩ := hG2.go hX1 hJ1 ho9 (old9 hB hS1 hS2) hBF
  refine lv_lstore (lv' := [(6, .long (if cdPd ts (A 1) (A 2) = 0 then ((trd ts (A 1)).bind (fun tr => (prd tr (A 2)).map (fun j => fltS tr.1 (bfC h0 h1 tr.1) fx j))).getD 0 else 0)), (5, .int (nI (cdPd ts (A 1) (A 2)))), (4, .int (nI (8 * n))), (0, .ref b), (1, .ref x), (2, .ref mo), (3, .ref o)]) hx hb dL_law_1139 hl (by decide) rfl (fun ls hl => ?_)
  refine lv_aload_n hx hb dL_law_1141 rfl (lv_at hl 5 rfl) ?_
  obtain ⟨sc2, ad2, ar2, hMR2, hMI2, hsc2⟩ := id hM2
  refine lpV hx hb hml hts hown hE kwL_93 (c_mthrown E mo sc2 ad2 ar2 H2 hMR2.1) hMR2.1.1 rfl (by decide) rfl hl.1 rfl (Nat.le_of_ble_eq_true rfl) (by omega) (by omega) dL_law_1142 ?_
  rw [hsc2]
  refine lv_iload hx hb dL_law_1145 (lv_at hl 1 rfl) ?_
  refine lv_icmp_eq (tgt := 1152) hx hb dL_law_1147 (by decide) (fun c5 => ?_) (fun c5 => ?_)
  rotate_left
  · exact absurd rfl c5
  refine lv_iload hx hb dL_law_1152 (lv_at hl 1 rfl) ?_
  refine lv_if_ne (tgt := 1168) hx hb dL_law_1154 (by decide) (fun c6 => ?_) (fun c6 => ?_)
  · refine lv_goto (tgt := 1599) hx hb dL_law_1168 (by decide) ?_
    exact kk H2 L2 _ _ ls hE hS2 ⟨ow1, h0, h1, fx, ts, B, cdPd ts (A 1) (A 2), f1, hX2, hM2, hJ2, ho9, hV, by omega, by omega, by omega⟩ (lv_sub hl [2, 3, 4, 5, 6] rfl)
  · have hcd := cd0 (Nat.le_trans (cdPd_le _ _ _) (by decide)) c6
    refine lv_aload_n hx hb dL_law_1157 rfl (lv_at hl 6 rfl) ?_
    refine lv_iconst (v := 0) hx hb dL_law_1158 (by decide) ?_
    refine aJ0 hx hb hE hJ2 dL_law_1159 ?_
    refine lv_lload hx hb dL_law_1160 (lv_at hl 0 rfl) ?_
    refine W.lcmp hx hb dL_law_1162 ?_
    refine lv_if_eq (tgt := 1168) hx hb dL_law_1163 (by decide) (fun c7 => ?_) (fun c7 => ?_)
    rotate_left
    · exact absurd (lcmp_eq0.mpr (by rw [if_pos hcd]; exact hP1 hcd)) c7
    refine lv_goto (tgt := 1599) hx hb dL_law_1168 (by decide) ?_
    exact kk H2 L2 _ _ ls hE hS2 ⟨ow1, h0, h1, fx, ts, B, cdPd ts (A 1) (A 2), f1, hX2, hM2, hJ2, ho9, hV, by omega, by omega, by omega⟩ (lv_sub hl [2, 3, 4, 5, 6] rfl)

set_option maxRecDepth 100000 in
set_option maxHeartbeats 4000000 in
/-- flow -/
theorem lc_15 {p : Program} {e : Env} {s : State} {m : MethodId} {below : List Frame} {meth : Method} {c : Code} {Q : State → Prop} {b L n : Nat} {xs A : Nat → Int32} {E : ET} {x mo o cells slots : Nat} {H : Heap} {locs : List Loc} {ls : Array Slot} (hC : LX p s m c b L n xs A E o) (hE : EV E s H) (hS : va_S (fr E) s.heap H locs) (hI : LI E x mo o n cells slots H) (hl : lv_has ls 8 [(4, .int (nI (8 * n))), (0, .ref b), (1, .ref x), (2, .ref mo), (3, .ref o)])
    (kk : ∀ (H1 : Heap) (locs1 : List Loc) (cells1 slots1 : Nat) (ls1 : Array Slot), EV E s H1 → va_S (fr E) s.heap H1 locs1 → LI E x mo o (n + 1) cells1 slots1 H1 → lv_has ls1 8 [(4, .int (nI (8 * n))), (0, .ref b), (1, .ref x), (2, .ref mo), (3, .ref o)] → W p (eL E) e room_1 s m #[Value.ref b] below meth c H1 locs1 cells1 slots1 Q (F0 m 1599 ls1 [])) : W p (eL E) e room_1 s m #[Value.ref b] below meth c H locs cells slots Q (F0 m 1171 ls []) := by
  obtain ⟨hx, hb, hml, hown, hts, hBE, hXs, hbl, hgo, hnL, hL, hA⟩ := hC
  obtain ⟨ow, h0, h1, fx, ts, B, c9, f, hX, hMW, hJ, ho, hV, hBl, hcl, hsl⟩ := hI
  have hB : eB E ≤ s.heap.size := Nat.le_of_eq hBE
  have hbA : ¬ fr E b := by show ¬ eB E ≤ b; omega
  have hBF := hE.2.2.1
  have htn := hV.tn
  have hzl := zc_le ts
  have hbl9 := hMW.bl
  have hK : BL ts := fun tr ht => by have := hbl9 tr ht; omega
  refine lv_aload_n hx hb dL_law_1171 rfl (lv_at hl 2 rfl) ?_
  refine lv_aload_n hx hb dL_law_1172 rfl (lv_at hl 1 rfl) ?_
  refine lv_iload hx hb dL_law_1173 (lv_at hl 0 rfl) ?_
  refine lv_iconst (v := 1) hx hb dL_law_1175 (by decide) ?_
  refine lv_iadd hx hb dL_law_1176 ?_
  refine lsd (k := 1) hx hb hXs hbl hbA hS hnL hL hA (by decide) (nI_add (8 * n) 1) dL_law_1177 ?_
  refine lv_aload_n hx hb dL_law_1178 rfl (lv_at hl 1 rfl) ?_
  refine lv_iload hx hb dL_law_1179 (lv_at hl 0 rfl) ?_
  refine lv_iconst (v := 2) hx hb dL_law_1181 (by decide) ?_
  refine lv_iadd hx hb dL_law_1182 ?_
  refine lsd (k := 2) hx hb hXs hbl hbA hS hnL hL hA (by decide) (nI_add (8 * n) 2) dL_law_1183 ?_
  refine lv_aload_n hx hb dL_law_1184 rfl (lv_at hl 4 rfl) ?_
  refine lgW hx hb hml hts hown hB hE hS kwX_144 (w_flow E ow x o h0 h1 fx ts f (A 1) (A 2) H hX hV hK hJ ho hgo) (by decide) rfl hl.1 rfl (Nat.le_of_ble_eq_true rfl) (by omega) (by omega) dL_law_1185 (fun v1 H1 L1 ho1 hz1 hE hS1 => ?_)
  obtain ⟨hv1, hw1⟩ := ho1
  subst hv1
  dsimp only [Option.toList, List.nil_append, List.cons_append]
  obtain ⟨ow1, f1, hX1, hM1, hJ1, ho9, hP1⟩ := rd_go hw1 hMW hJ ho
  refine lv_istore (lv' := [(5, .int (nI (cdPd ts (A 1) (A 2)))), (4, .int (nI (8 * n))), (0, .ref b), (1, .ref x), (2, .ref mo), (3, .ref o)]) hx hb dL_law_1188 hl (by decide) rfl (fun ls hl => ?_)
  refine lv_aload_n hx hb dL_law_1190 rfl (lv_at hl 4 rfl) ?_
  refine lv_aload_n hx hb dL_law_1191 rfl (lv_at hl 2 rfl) ?_
  refine lv_iload hx hb dL_law_1192 (lv_at hl 1 rfl) ?_
  refine lv_iconst (v := 1) hx hb dL_law_1194 (by decide) ?_
  refine lv_iadd hx hb dL_law_1195 ?_
  refine lsd (k := 1) hx hb hXs hbl hbA hS1 hnL hL hA (by decide) (nI_add (8 * n) 1) dL_law_1196 ?_
  refine lv_aload_n hx hb dL_law_1197 rfl (lv_at hl 2 rfl) ?_
  refine lv_iload hx hb dL_law_1198 (lv_at hl 1 rfl) ?_
  refine lv_iconst (v := 2) hx hb dL_law_1200 (by decide) ?_
  refine lv_iadd hx hb dL_law_1201 ?_
  refine lsd (k := 2) hx hb hXs hbl hbA hS1 hnL hL hA (by decide) (nI_add (8 * n) 2) dL_law_1202 ?_
  obtain ⟨sc, ad, ar, hMR, hMI, hsc⟩ := hM1
  refine lgV hx hb hml hts hown hB hE hS1 kwL_146 (c_mflowp E ow1 mo sc ad ar h0 h1 fx ts B (A 1) (A 2) H1 hMR hMI hV) hMR.1.1 rfl (by decide) rfl hl.1 rfl (Nat.le_of_ble_eq_true rfl) (by omega) (by omega) dL_law_1203 (fun H2 L2 hG2 hz2 hE hS2 => ?_)
  obtain ⟨hX2, hM2, hJ2⟩ := hG2.go hX1 hJ1 ho9 (old9 hB hS1 hS2) hBF
  refine lv_lstore (lv' := [(6, .long (if cdPd ts (A 1) (A 2) = 0 then ((trd ts (A 1)).bind (fun tr => (prd tr (A 2)).map (fun j => flwS tr.1 tr.2.1 (bfC h0 h1 tr.1) fx j))).getD 0 else 0)), (5, .int (nI (cdPd ts (A 1) (A 2)))), (4, .int (nI (8 * n))), (0, .ref b), (1, .ref x), (2, .ref mo), (3, .ref o)]) hx hb dL_law_1206 hl (by decide) rfl (fun ls hl => ?_)
  refine lv_aload_n hx hb dL_law_1208 rfl (lv_at hl 5 rfl) ?_
  obtain ⟨sc2, ad2, ar2, hMR2, hMI2, hsc2⟩ := id hM2
  refine lpV hx hb hml hts hown hE kwL_93 (c_mthrown E mo sc2 ad2 ar2 H2 hMR2.1) hMR2.1.1 rfl (by decide) rfl hl.1 rfl (Nat.le_of_ble_eq_true rfl) (by omega) (by omega) dL_law_1209 ?_
  rw [hsc2]
  refine lv_iload hx hb dL_law_1212 (lv_at hl 1 rfl) ?_
  refine lv_icmp_eq (tgt := 1219) hx hb dL_law_1214 (by decide) (fun c5 => ?_) (fun c5 => ?_)
  rotate_left
  · exact absurd rfl c5
  refine lv_iload hx hb dL_law_1219 (lv_at hl 1 rfl) ?_
  refine lv_if_ne (tgt := 1235) hx hb dL_law_1221 (by decide) (fun c6 => ?_) (fun c6 => ?_)
  · refine lv_goto (tgt := 1599) hx hb dL_law_1235 (by decide) ?_
    exact kk H2 L2 _ _ ls hE hS2 ⟨ow1, h0, h1, fx, ts, B, cdPd ts (A 1) (A 2), f1, hX2, hM2, hJ2, ho9, hV, by omega, by omega, by omega⟩ (lv_sub hl [2, 3, 4, 5, 6] rfl)
  · have hcd := cd0 (Nat.le_trans (cdPd_le _ _ _) (by decide)) c6
    refine lv_aload_n hx hb dL_law_1224 rfl (lv_at hl 6 rfl) ?_
    refine lv_iconst (v := 0) hx hb dL_law_1225 (by decide) ?_
    refine aJ0 hx hb hE hJ2 dL_law_1226 ?_
    refine lv_lload hx hb dL_law_1227 (lv_at hl 0 rfl) ?_
    refine W.lcmp hx hb dL_law_1229 ?_
    refine lv_if_eq (tgt := 1235) hx hb dL_law_1230 (by decide) (fun c7 => ?_) (fun c7 => ?_)
    rotate_left
    · exact absurd (lcmp_eq0.mpr (by rw [if_pos hcd]; exact hP1 hcd)) c7
    refine lv_goto (tgt := 1599) hx hb dL_law_1235 (by decide) ?_
    exact kk H2 L2 _ _ ls hE hS2 ⟨ow1, h0, h1, fx, ts, B, cdPd ts (A 1) (A 2), f1, hX2, hM2, hJ2, ho9, hV, by omega, by omega, by omega⟩ (lv_sub hl [2, 3, 4, 5, 6] rfl)
