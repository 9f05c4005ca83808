/-! isPressed -/
theorem XOut.tr {E : ET} {ow ow1 : Nat → Nat × Nat} {x : Nat} {h0 h1 fx : Dy} {ts : List TR} {H H1 H2 : Heap} (e1 : ∀ q, q < H.size → ow1 q = ow q) (e2 : ∀ q, H.size ≤ q → (ow1 q).1 ≠ 4) (hF : FR (fun q => (ow q).1 ≠ 4) H H1) (h : XOut E ow1 x h0 h1 fx ts H1 H2) : XOut E ow x h0 h1 fx ts H H2 := by
  obtain ⟨ow2, g1, g2, hX, hG⟩ := h
  have hz := hF.1
  refine ⟨ow2, fun q hq => (g1 q (by omega)).trans (e1 q hq), fun q hq => ?_, hX, hF.tr hG (fun q hq h4 => ?_)⟩
  · rcases Nat.lt_or_ge q H1.size with c | c
    · rw [g1 q c]; exact e2 q hq
    · exact g2 q c
  · show (ow q).1 ≠ 4
    rw [← e1 q hq]
    exact h4
theorem prs_pv {h0 h1 fx : Dy} {ts : List TR} {d K : Nat} (hV : SV h0 h1 fx ts) (hK : ∀ tr ∈ ts, tr.2.1.length ≤ K) (hd : d ≤ 3000) : PV h0 h1 fx ts.length K (prs h0 h1 (nI d) ts) := PV.ou hd ts.length 0 (ts, 0, 0, []) ⟨rfl, hV, hK⟩
theorem n_press0 {E : ET} {ow : Nat → Nat × Nat} {x : Nat} {h0 h1 fx : Dy} {ts : List TR} {H : Heap} {d K : Nat} (hX : XR E ow x h0 h1 fx ts H) (hV : SV h0 h1 fx ts) (hK : BL ts) (hd : d ≤ 3000) (hK9 : ∀ tr ∈ ts, tr.2.1.length ≤ K) (hK5 : K ≤ 5000) (he : prs h0 h1 (nI d) ts = (ts, 0, 0, [])) : Con E yX4_press cX4_press 5 (some FieldType.int) 10 1 6 [.ref x, .int (nI d)] H (o1 (some (.int 0)) (fun H' => XOut E ow x h0 h1 fx ts H H')) := by
  have h := n_press (K := K) (KK := K) hX hV hK hd hK9 (by rw [he]; exact Nat.le_refl _) hK5
  rw [he] at h
  exact h
theorem np_le {tr' tr : TR} (h : leT tr' tr) : np tr' = np tr := by unfold np; rw [h.1]
set_option maxRecDepth 100000 in
set_option maxHeartbeats 4000000 in
/-- isPressed -/
theorem c_isPressed (E : ET) (ow : Nat → Nat × Nat) (x : Nat) (h0 h1 fx : Dy) (ts : List TR) (pe d a K KK : Nat) (pf : Nat → Int32) (H : Heap) (hX : XR E ow x h0 h1 fx ts H) (hV : SV h0 h1 fx ts) (hK : BL ts) (hG : ∀ tr ∈ ts, GT tr) (hA : IA E 10 pf pe H) (hop : (ow pe).1 = 4) (hpf : ∀ (t : Nat) (tr : TR), ts[t]? = some tr → pf t = nI (np tr)) (hd : d ≤ 1000) (ha : a ≤ 1000) (hK9 : ∀ tr ∈ ts, tr.2.1.length ≤ K) (hKK : K + (prs h0 h1 (nI d) ts).2.2.1 ≤ KK) (hKK5 : KK ≤ 4000) : Con E yL_isPressed cL_isPressed 14 (some FieldType.boolean) 11 (1100 + 4 * (prs h0 h1 (nI d) ts).2.2.1) (6300 + 2 * (2 + (2 * KK + 10)) * (prs h0 h1 (nI d) ts).2.2.1) [.ref x, .ref pe, .int (nI d), .int (nI a)] H (o1 (some (.int 1)) (fun H' => XOut E ow x h0 h1 fx (prs h0 h1 (nI d) ts).1 H H')) := by
  refine Con.of (C := RL) rfl (by decide +kernel) (Nat.le_of_ble_eq_true rfl) ?_
  intro p e s m below meth co ls hx hb hr hlk hml hown hts hin hE hH hS hl
  have hl : lv_has ls 14 [(0, .ref x), (1, .ref pe), (2, .int (nI d)), (3, .int (nI a))] := hl
  have hB : eB E ≤ s.heap.size := by rw [hH]; exact hE.2.1
  obtain ⟨fs, hO⟩ := hX.ob
  have htn := hV.tn
  have hTG : ∀ tr ∈ ts, TV tr ∧ GT tr := fun tr ht => ⟨hV.2.2.2.2.2.2.2.2 tr ht, hG tr ht⟩
  obtain ⟨p1, p2, ⟨nq, p3, p4⟩, p5⟩ := prs_all (h0 := h0) (h1 := h1) (fx := fx) (d := d) (by omega) hTG
  have ptwo := prs_two (h0 := h0) (h1 := h1) (d := d) (by omega) (fun tr ht => ⟨(hTG tr ht).1, (hTG tr ht).2.1⟩)
  have hcn := prs_cn h0 h1 (nI d) ts htn
  obtain ⟨pv1, pv2, pv3⟩ := prs_pv (K := K) hV hK9 (d := d) (by omega)
  have hc1 := n_press (K := K) (KK := KK) hX hV hK (d := d) (by omega) hK9 hKK (by omega)
  obtain ⟨PF, hPF⟩ : ∃ z, z = prs h0 h1 (nI d) ts := ⟨_, rfl⟩
  rw [← hPF] at p1 p2 p3 p4 p5 ptwo hcn pv1 pv2 pv3 hc1 hKK ⊢
  obtain ⟨D, hD9⟩ : ∃ z, z = 2 * (2 + (2 * KK + 10)) := ⟨_, rfl⟩
  rw [← hD9] at hc1 ⊢
  clear hPF
  have hDp : D * PF.2.2.1 ≤ D * PF.2.2.1 := Nat.le_refl _
  have hGt := hG
  clear hG
  refine lv_aload_n hx hb dL_isPressed_0 rfl (lv_at hl 0 rfl) ?_
  refine lv_iconst (v := 0) hx hb dL_isPressed_1 (by decide) ?_
  refine lv_iload_n hx hb dL_isPressed_2 rfl (lv_at hl 3 rfl) ?_
  refine lv_iload_n hx hb dL_isPressed_3 rfl (lv_at hl 3 rfl) ?_
  refine lv_sipush (v := 400) hx hb dL_isPressed_4 (by decide) ?_
  refine lv_iadd hx hb dL_isPressed_7 ?_
  rw [show nI a + 400 = nI (a + 400) from nI_add a 400]
  refine gV hx hb hml hts hown hB hE hS kwL_8 (n_days (pa := 0) hX hV hK (span_ok (pa := 0) (by omega) (by omega) (by omega) (by omega))) hO rfl (Nat.le_of_ble_eq_true rfl) rfl hl.1 rfl (Nat.le_of_ble_eq_true rfl) (by omega) (by omega) dL_isPressed_8 (fun H1 L1 hG hz1 hE hS => ?_)
  have hG := hG.symm
  subst hG
  refine lv_lstore (lv' := [(4, .long (sumS h0 h1 fx 0 (nI a) (nI (a + 400)) 0 ts)), (0, .ref x), (1, .ref pe), (2, .int (nI d)), (3, .int (nI a))]) hx hb dL_isPressed_11 hl (by decide) rfl (fun ls hl => ?_)
  refine lv_aload_n hx hb dL_isPressed_13 rfl (lv_at hl 1 rfl) ?_
  refine lv_iconst (v := 1) hx hb dL_isPressed_14 (by decide) ?_
  refine lv_iload_n hx hb dL_isPressed_15 rfl (lv_at hl 4 rfl) ?_
  refine lv_iload_n hx hb dL_isPressed_16 rfl (lv_at hl 4 rfl) ?_
  refine lv_sipush (v := 400) hx hb dL_isPressed_17 (by decide) ?_
  refine lv_iadd hx hb dL_isPressed_20 ?_
  rw [show nI a + 400 = nI (a + 400) from nI_add a 400]
  refine gV hx hb hml hts hown hB hE hS kwL_8 (n_days (pa := 1) hX hV hK (span_ok (pa := 1) (by omega) (by omega) (by omega) (by omega))) hO rfl (Nat.le_of_ble_eq_true rfl) rfl hl.1 rfl (Nat.le_of_ble_eq_true rfl) (by omega) (by omega) dL_isPressed_21 (fun H2 L2 hG hz2 hE hS => ?_)
  have hG := hG.symm
  subst hG
  refine lv_lstore (lv' := [(6, .long (sumS h0 h1 fx 1 (nI a) (nI (a + 400)) 0 ts)), (4, .long (sumS h0 h1 fx 0 (nI a) (nI (a + 400)) 0 ts)), (0, .ref x), (1, .ref pe), (2, .int (nI d)), (3, .int (nI a))]) hx hb dL_isPressed_24 hl (by decide) rfl (fun ls hl => ?_)
  refine lv_aload_n hx hb dL_isPressed_26 rfl (lv_at hl 2 rfl) ?_
  refine lv_iconst (v := 2) hx hb dL_isPressed_27 (by decide) ?_
  refine lv_iload_n hx hb dL_isPressed_28 rfl (lv_at hl 5 rfl) ?_
  refine lv_iload_n hx hb dL_isPressed_29 rfl (lv_at hl 5 rfl) ?_
  refine lv_sipush (v := 400) hx hb dL_isPressed_30 (by decide) ?_
  refine lv_iadd hx hb dL_isPressed_33 ?_
  rw [show nI a + 400 = nI (a + 400) from nI_add a 400]
  refine gV hx hb hml hts hown hB hE hS kwL_8 (n_days (pa := 2) hX hV hK (span_ok (pa := 2) (by omega) (by omega) (by omega) (by omega))) hO rfl (Nat.le_of_ble_eq_true rfl) rfl hl.1 rfl (Nat.le_of_ble_eq_true rfl) (by omega) (by omega) dL_isPressed_34 (fun H3 L3 hG hz3 hE hS => ?_)
  have hG := hG.symm
  subst hG
  refine lv_lstore (lv' := [(8, .long (sumS h0 h1 fx 2 (nI a) (nI (a + 400)) 0 ts)), (6, .long (sumS h0 h1 fx 1 (nI a) (nI (a + 400)) 0 ts)), (4, .long (sumS h0 h1 fx 0 (nI a) (nI (a + 400)) 0 ts)), (0, .ref x), (1, .ref pe), (2, .int (nI d)), (3, .int (nI a))]) hx hb dL_isPressed_37 hl (by decide) rfl (fun ls hl => ?_)
  refine lv_aload_n hx hb dL_isPressed_39 rfl (lv_at hl 3 rfl) ?_
  refine lv_iload_n hx hb dL_isPressed_40 rfl (lv_at hl 5 rfl) ?_
  refine gV hx hb hml hts hown hB hE hS kwL_35 hc1 hO rfl (Nat.le_of_ble_eq_true rfl) rfl hl.1 rfl (Nat.le_of_ble_eq_true rfl) (by omega) (by omega) dL_isPressed_41 (fun H4 L4 hG hz4 hE hS => ?_)
  obtain ⟨ow1, e1, e2, hX1, hF1⟩ := hG
  have hKn : BL PF.1 := fun y hy => by have := pv3 y hy; omega
  have hKK9 : ∀ tr ∈ PF.1, tr.2.1.length ≤ KK := fun y hy => by have := pv3 y hy; omega
  have hA1 : IA E 10 pf pe H4 := hF1.at hA (fun q => q hop)
  have hpf1 : ∀ (t : Nat) (tr : TR), PF.1[t]? = some tr → pf t = nI (np tr) := fun t tr ht => by obtain ⟨ur, hu, hl⟩ := p5 t tr ht; rw [np_le hl]; exact hpf t ur hu
  clear hO hA hX hK hV hc1 hpf p5
  obtain ⟨fs1, hO1⟩ := hX1.ob
  have htn1 := pv2.tn
  refine lv_istore (lv' := [(10, .int PF.2.1), (8, .long (sumS h0 h1 fx 2 (nI a) (nI (a + 400)) 0 ts)), (6, .long (sumS h0 h1 fx 1 (nI a) (nI (a + 400)) 0 ts)), (4, .long (sumS h0 h1 fx 0 (nI a) (nI (a + 400)) 0 ts)), (0, .ref x), (1, .ref pe), (2, .int (nI d)), (3, .int (nI a))]) hx hb dL_isPressed_44 hl (by decide) rfl (fun ls hl => ?_)
  refine lv_iload hx hb dL_isPressed_46 (lv_at hl 0 rfl) ?_
  refine lv_if_lt (tgt := 106) hx hb dL_isPressed_48 (by decide) (fun c1 => ?_) (fun c1 => ?_)
  · exact absurd c1 (by rw [p3]; exact nI_pos (by omega))
  refine lv_aload_n hx hb dL_isPressed_51 rfl (lv_at hl 4 rfl) ?_
  refine lv_iconst (v := 0) hx hb dL_isPressed_52 (by decide) ?_
  refine lv_iload_n hx hb dL_isPressed_53 rfl (lv_at hl 7 rfl) ?_
  refine lv_iload_n hx hb dL_isPressed_54 rfl (lv_at hl 7 rfl) ?_
  refine lv_sipush (v := 400) hx hb dL_isPressed_55 (by decide) ?_
  refine lv_iadd hx hb dL_isPressed_58 ?_
  rw [show nI a + 400 = nI (a + 400) from nI_add a 400]
  refine gV hx hb hml hts hown hB hE hS kwL_8 (n_days (pa := 0) hX1 pv2 hKn (span_ok (pa := 0) (by omega) (by omega) (by omega) (by omega))) hO1 rfl (Nat.le_of_ble_eq_true rfl) rfl hl.1 rfl (Nat.le_of_ble_eq_true rfl) (by omega) (by omega) dL_isPressed_59 (fun H5 L5 hG hz5 hE hS => ?_)
  have hG := hG.symm
  subst hG
  refine lv_lload hx hb dL_isPressed_62 (lv_at hl 3 rfl) ?_
  refine W.lcmp hx hb dL_isPressed_64 ?_
  refine lv_if_ne (tgt := 106) hx hb dL_isPressed_65 (by decide) (fun c2 => ?_) (fun c2 => ?_)
  · exact absurd (lcmp_eq0.mpr (p2 0 _ _)) c2
  refine lv_aload_n hx hb dL_isPressed_68 rfl (lv_at hl 4 rfl) ?_
  refine lv_iconst (v := 1) hx hb dL_isPressed_69 (by decide) ?_
  refine lv_iload_n hx hb dL_isPressed_70 rfl (lv_at hl 7 rfl) ?_
  refine lv_iload_n hx hb dL_isPressed_71 rfl (lv_at hl 7 rfl) ?_
  refine lv_sipush (v := 400) hx hb dL_isPressed_72 (by decide) ?_
  refine lv_iadd hx hb dL_isPressed_75 ?_
  rw [show nI a + 400 = nI (a + 400) from nI_add a 400]
  refine gV hx hb hml hts hown hB hE hS kwL_8 (n_days (pa := 1) hX1 pv2 hKn (span_ok (pa := 1) (by omega) (by omega) (by omega) (by omega))) hO1 rfl (Nat.le_of_ble_eq_true rfl) rfl hl.1 rfl (Nat.le_of_ble_eq_true rfl) (by omega) (by omega) dL_isPressed_76 (fun H6 L6 hG hz6 hE hS => ?_)
  have hG := hG.symm
  subst hG
  refine lv_lload hx hb dL_isPressed_79 (lv_at hl 2 rfl) ?_
  refine W.lcmp hx hb dL_isPressed_81 ?_
  refine lv_if_ne (tgt := 106) hx hb dL_isPressed_82 (by decide) (fun c3 => ?_) (fun c3 => ?_)
  · exact absurd (lcmp_eq0.mpr (p2 1 _ _)) c3
  refine lv_aload_n hx hb dL_isPressed_85 rfl (lv_at hl 4 rfl) ?_
  refine lv_iconst (v := 2) hx hb dL_isPressed_86 (by decide) ?_
  refine lv_iload_n hx hb dL_isPressed_87 rfl (lv_at hl 7 rfl) ?_
  refine lv_iload_n hx hb dL_isPressed_88 rfl (lv_at hl 7 rfl) ?_
  refine lv_sipush (v := 400) hx hb dL_isPressed_89 (by decide) ?_
  refine lv_iadd hx hb dL_isPressed_92 ?_
  rw [show nI a + 400 = nI (a + 400) from nI_add a 400]
  refine gV hx hb hml hts hown hB hE hS kwL_8 (n_days (pa := 2) hX1 pv2 hKn (span_ok (pa := 2) (by omega) (by omega) (by omega) (by omega))) hO1 rfl (Nat.le_of_ble_eq_true rfl) rfl hl.1 rfl (Nat.le_of_ble_eq_true rfl) (by omega) (by omega) dL_isPressed_93 (fun H7 L7 hG hz7 hE hS => ?_)
  have hG := hG.symm
  subst hG
  refine lv_lload hx hb dL_isPressed_96 (lv_at hl 1 rfl) ?_
  refine W.lcmp hx hb dL_isPressed_98 ?_
  refine lv_if_ne (tgt := 106) hx hb dL_isPressed_99 (by decide) (fun c4 => ?_) (fun c4 => ?_)
  · exact absurd (lcmp_eq0.mpr (p2 2 _ _)) c4
  refine lv_iconst (v := 1) hx hb dL_isPressed_102 (by decide) ?_
  refine lv_goto (tgt := 107) hx hb dL_isPressed_103 (by decide) ?_
  refine lv_istore (lv' := [(11, .int 1), (10, .int PF.2.1), (8, .long (sumS h0 h1 fx 2 (nI a) (nI (a + 400)) 0 ts)), (6, .long (sumS h0 h1 fx 1 (nI a) (nI (a + 400)) 0 ts)), (4, .long (sumS h0 h1 fx 0 (nI a) (nI (a + 400)) 0 ts)), (0, .ref x), (1, .ref pe), (2, .int (nI d)), (3, .int (nI a))]) hx hb dL_isPressed_107 hl (by decide) rfl (fun ls hl => ?_)
  refine lv_iconst (v := 0) hx hb dL_isPressed_109 (by decide) ?_
  refine lv_istore (lv' := [(12, .int 0), (11, .int 1), (10, .int PF.2.1), (8, .long (sumS h0 h1 fx 2 (nI a) (nI (a + 400)) 0 ts)), (6, .long (sumS h0 h1 fx 1 (nI a) (nI (a + 400)) 0 ts)), (4, .long (sumS h0 h1 fx 0 (nI a) (nI (a + 400)) 0 ts)), (0, .ref x), (1, .ref pe), (2, .int (nI d)), (3, .int (nI a))]) hx hb dL_isPressed_110 hl (by decide) rfl (fun ls hl => ?_)
  have loop2 : ∀ (us : List TR) (i c9 s9 : Nat) (locs : List Loc) (ls : Array Slot), PF.1.drop i = us → i ≤ PF.1.length → c9 + 100 * us.length ≤ 1070 + 4 * PF.2.2.1 → s9 + 600 * us.length ≤ 6200 + D * PF.2.2.1 → va_S (fr E) s.heap H4 locs → lv_has ls 14 [(0, .ref x), (1, .ref pe), (2, .int (nI d)), (3, .int (nI a)), (11, .int 1), (12, .int (nI i))] → W p (eL E) e (rmk 11 (1100 + 4 * PF.2.2.1) (6300 + D * PF.2.2.1)) s m ([.ref x, .ref pe, .int (nI d), .int (nI a)]).toArray below meth co H4 locs c9 s9 (MQ below (CQ E (o1 (some (.int 1)) (fun H' => XOut E ow x h0 h1 fx PF.1 H H'))) ([.ref x, .ref pe, .int (nI d), .int (nI a)]).toArray s (1100 + 4 * PF.2.2.1) (6300 + D * PF.2.2.1) (fr E)) (F0 m 112 ls []) := by
    intro us
    induction us with
    | nil =>
      intro i c9 s9 locs ls hd9 hi hc hs hS hl
      have hi2 := drop_n hd9 hi
      have hc : c9 ≤ 1070 + 4 * PF.2.2.1 := by omega
      have hs : s9 ≤ 6200 + D * PF.2.2.1 := by omega
      refine lv_iload hx hb dL_isPressed_112 (lv_at hl 5 rfl) ?_
      refine lv_aload_n hx hb dL_isPressed_114 rfl (lv_at hl 0 rfl) ?_
      refine pV hx hb hml hts hown hE kwL_17 (c_xtrades E ow1 x h0 h1 fx PF.1 H4 hX1 pv2 hKn) hO1 rfl (Nat.le_of_ble_eq_true rfl) rfl hl.1 rfl (Nat.le_of_ble_eq_true rfl) (by omega) (by omega) dL_isPressed_115 ?_
      refine lv_icmp_ge (tgt := 218) hx hb dL_isPressed_118 (by decide) (fun q1 => ?_) (fun q1 => ?_)
      rotate_left
      · exact absurd (nI_le (by omega) (by omega)) q1
      refine lv_iload hx hb dL_isPressed_218 (lv_at hl 4 rfl) ?_
      refine lv_if_eq (tgt := 235) hx hb dL_isPressed_220 (by decide) (fun q2 => ?_) (fun q2 => ?_)
      · exact absurd q2 (by decide)
      refine lv_aload_n hx hb dL_isPressed_223 rfl (lv_at hl 0 rfl) ?_
      refine lv_iload_n hx hb dL_isPressed_224 rfl (lv_at hl 2 rfl) ?_
      refine gV hx hb hml hts hown hB hE hS kwL_35 (n_press0 hX1 pv2 hKn (by omega) hKK9 (by omega) ptwo) hO1 rfl (Nat.le_of_ble_eq_true rfl) rfl hl.1 rfl (Nat.le_of_ble_eq_true rfl) (by omega) (by omega) dL_isPressed_225 (fun H8 L8 hG hz8 hE hS => ?_)
      refine lv_if_ne (tgt := 235) hx hb dL_isPressed_228 (by decide) (fun q3 => ?_) (fun q3 => ?_)
      · exact absurd rfl q3
      refine lv_iconst (v := 1) hx hb dL_isPressed_231 (by decide) ?_
      refine lv_goto (tgt := 236) hx hb dL_isPressed_232 (by decide) ?_
      exact cZ hx hb hr hlk hB hS (by omega) (by omega) (Or.inr rfl) (⟨rfl, XOut.tr e1 e2 hF1 hG⟩) dL_isPressed_236
    | cons tr us ih =>
      intro i c9 s9 locs ls hd9 hi hc hs hS hl
      obtain ⟨ht, hlt, hd2⟩ := drop_c hd9
      rw [List.length_cons] at hc hs
      obtain ⟨hT, hGB, -⟩ := p1 tr (List.mem_of_getElem? ht)
      obtain ⟨n6, n1, n10⟩ := hT.n
      have hpt := hpf1 i tr ht
      refine lv_iload hx hb dL_isPressed_112 (lv_at hl 5 rfl) ?_
      refine lv_aload_n hx hb dL_isPressed_114 rfl (lv_at hl 0 rfl) ?_
      refine pV hx hb hml hts hown hE kwL_17 (c_xtrades E ow1 x h0 h1 fx PF.1 H4 hX1 pv2 hKn) hO1 rfl (Nat.le_of_ble_eq_true rfl) rfl hl.1 rfl (Nat.le_of_ble_eq_true rfl) (by omega) (by omega) dL_isPressed_115 ?_
      refine lv_icmp_ge (tgt := 218) hx hb dL_isPressed_118 (by decide) (fun q1 => ?_) (fun q1 => ?_)
      · exact absurd q1 (nI_ge hlt (by omega))
      refine lv_iload hx hb dL_isPressed_121 (lv_at hl 4 rfl) ?_
      refine lv_if_eq (tgt := 218) hx hb dL_isPressed_123 (by decide) (fun q2 => ?_) (fun q2 => ?_)
      · exact absurd q2 (by decide)
      refine lv_iconst (v := 0) hx hb dL_isPressed_126 (by decide) ?_
      refine lv_istore (lv' := [(13, .int 0), (0, .ref x), (1, .ref pe), (2, .int (nI d)), (3, .int (nI a)), (11, .int 1), (12, .int (nI i))]) hx hb dL_isPressed_127 hl (by decide) rfl (fun ls hl => ?_)
      have loop3 : ∀ (r k c8 s8 : Nat) (locs : List Loc) (ls : Array Slot), k + r = np tr → c8 + 10 * r ≤ c9 + 100 → s8 + 60 * r ≤ s9 + 600 → va_S (fr E) s.heap H4 locs → lv_has ls 14 [(0, .ref x), (1, .ref pe), (2, .int (nI d)), (3, .int (nI a)), (11, .int 1), (12, .int (nI i)), (13, .int (nI k))] → W p (eL E) e (rmk 11 (1100 + 4 * PF.2.2.1) (6300 + D * PF.2.2.1)) s m ([.ref x, .ref pe, .int (nI d), .int (nI a)]).toArray below meth co H4 locs c8 s8 (MQ below (CQ E (o1 (some (.int 1)) (fun H' => XOut E ow x h0 h1 fx PF.1 H H'))) ([.ref x, .ref pe, .int (nI d), .int (nI a)]).toArray s (1100 + 4 * PF.2.2.1) (6300 + D * PF.2.2.1) (fr E)) (F0 m 129 ls []) := by
        intro r
        induction r with
        | zero =>
          intro k c8 s8 locs ls hk h8 h7 hS hl
          have hk : k = np tr := hk
          refine lv_iload hx hb dL_isPressed_129 (lv_at hl 6 rfl) ?_
          refine lv_aload_n hx hb dL_isPressed_131 rfl (lv_at hl 1 rfl) ?_
          refine lv_iload hx hb dL_isPressed_132 (lv_at hl 5 rfl) ?_
          refine aI hx hb hE hA1 rfl (by omega) (by omega) hpt dL_isPressed_134 ?_
          refine lv_icmp_ge (tgt := 212) hx hb dL_isPressed_135 (by decide) (fun q2 => ?_) (fun q2 => ?_)
          rotate_left
          · exact absurd (nI_le (by omega) (by omega)) q2
          refine lv_iinc (v := nI (i + 1)) (lv' := [(12, .int (nI (i + 1))), (0, .ref x), (1, .ref pe), (2, .int (nI d)), (3, .int (nI a)), (11, .int 1), (13, .int (nI k))]) hx hb dL_isPressed_212 hl (k := 5) rfl (nI_1 i) (by decide) rfl (fun ls hl => ?_)
          refine lv_goto (tgt := 112) hx hb dL_isPressed_215 (by decide) ?_
          exact ih (i + 1) c8 s8 locs ls hd2 (by omega) (by omega) (by omega) hS (lv_sub hl [1, 2, 3, 4, 5, 0] rfl)
        | succ r ih3 =>
          intro k c8 s8 locs ls hk h8 h7 hS hl
          have hlk : k < np tr := by omega
          refine lv_iload hx hb dL_isPressed_129 (lv_at hl 6 rfl) ?_
          refine lv_aload_n hx hb dL_isPressed_131 rfl (lv_at hl 1 rfl) ?_
          refine lv_iload hx hb dL_isPressed_132 (lv_at hl 5 rfl) ?_
          refine aI hx hb hE hA1 rfl (by omega) (by omega) hpt dL_isPressed_134 ?_
          refine lv_icmp_ge (tgt := 212) hx hb dL_isPressed_135 (by decide) (fun q2 => ?_) (fun q2 => ?_)
          · exact absurd q2 (nI_ge hlk (by omega))
          refine lv_iload hx hb dL_isPressed_138 (lv_at hl 4 rfl) ?_
          refine lv_if_eq (tgt := 212) hx hb dL_isPressed_140 (by decide) (fun q3 => ?_) (fun q3 => ?_)
          · exact absurd q3 (by decide)
          refine lv_aload_n hx hb dL_isPressed_143 rfl (lv_at hl 0 rfl) ?_
          refine lv_iload hx hb dL_isPressed_144 (lv_at hl 5 rfl) ?_
          refine lv_iload hx hb dL_isPressed_146 (lv_at hl 6 rfl) ?_
          refine gV hx hb hml hts hown hB hE hS kwL_39 (n_lots hX1 pv2 hKn ht hlk) hO1 rfl (Nat.le_of_ble_eq_true rfl) rfl hl.1 rfl (Nat.le_of_ble_eq_true rfl) (by omega) (by omega) dL_isPressed_148 (fun H8 L8 hG hz8 hE hS => ?_)
          have hG := hG.symm
          subst hG
          refine lv_if_lt (tgt := 203) hx hb dL_isPressed_151 (by decide) (fun q4 => ?_) (fun q4 => ?_)
          · exact absurd q4 (lot_ge hT hGB _ _)
          refine lv_iload hx hb dL_isPressed_154 (lv_at hl 6 rfl) ?_
          refine lv_if_eq (tgt := 180) hx hb dL_isPressed_156 (by decide) (fun q5 => ?_) (fun q5 => ?_)
          · refine lv_aload_n hx hb dL_isPressed_180 rfl (lv_at hl 0 rfl) ?_
            refine lv_iload hx hb dL_isPressed_181 (lv_at hl 5 rfl) ?_
            refine lv_iload hx hb dL_isPressed_183 (lv_at hl 6 rfl) ?_
            refine gV hx hb hml hts hown hB hE hS kwL_42 (n_start hX1 pv2 hKn ht hlk) hO1 rfl (Nat.le_of_ble_eq_true rfl) rfl hl.1 rfl (Nat.le_of_ble_eq_true rfl) (by omega) (by omega) dL_isPressed_185 (fun H9 L9 hG hz9 hE hS => ?_)
            have hG := hG.symm
            subst hG
            refine lv_aload_n hx hb dL_isPressed_188 rfl (lv_at hl 0 rfl) ?_
            refine lv_iload hx hb dL_isPressed_189 (lv_at hl 5 rfl) ?_
            refine lv_iload hx hb dL_isPressed_191 (lv_at hl 6 rfl) ?_
            refine gV hx hb hml hts hown hB hE hS kwL_21 (n_end hX1 pv2 hKn ht hlk) hO1 rfl (Nat.le_of_ble_eq_true rfl) rfl hl.1 rfl (Nat.le_of_ble_eq_true rfl) (by omega) (by omega) dL_isPressed_193 (fun H10 L10 hG hz10 hE hS => ?_)
            have hG := hG.symm
            subst hG
            refine lv_icmp_gt (tgt := 203) hx hb dL_isPressed_196 (by decide) (fun q8 => ?_) (fun q8 => ?_)
            · exact absurd q8 (Int32.not_lt.mpr (bfC_mono pv2 hT (Nat.le_succ k) (by omega)))
            refine lv_iconst (v := 1) hx hb dL_isPressed_199 (by decide) ?_
            refine lv_goto (tgt := 204) hx hb dL_isPressed_200 (by decide) ?_
            refine lv_istore (lv' := [(11, .int 1), (0, .ref x), (1, .ref pe), (2, .int (nI d)), (3, .int (nI a)), (12, .int (nI i)), (13, .int (nI k))]) hx hb dL_isPressed_204 hl (by decide) rfl (fun ls hl => ?_)
            refine lv_iinc (v := nI (k + 1)) (lv' := [(13, .int (nI (k + 1))), (11, .int 1), (0, .ref x), (1, .ref pe), (2, .int (nI d)), (3, .int (nI a)), (12, .int (nI i))]) hx hb dL_isPressed_206 hl (k := 6) rfl (nI_1 k) (by decide) rfl (fun ls hl => ?_)
            refine lv_goto (tgt := 129) hx hb dL_isPressed_209 (by decide) ?_
            exact ih3 (k + 1) _ _ L10 ls (by omega) (by omega) (by omega) hS (lv_sub hl [2, 3, 4, 5, 1, 6, 0] rfl)
          · have hk0 : 1 ≤ k := by rcases Nat.eq_zero_or_pos k with e0 | e0; exact absurd (by rw [e0]; rfl) q5; exact e0
            refine lv_aload_n hx hb dL_isPressed_159 rfl (lv_at hl 0 rfl) ?_
            refine lv_iload hx hb dL_isPressed_160 (lv_at hl 5 rfl) ?_
            refine lv_iload hx hb dL_isPressed_162 (lv_at hl 6 rfl) ?_
            refine gV hx hb hml hts hown hB hE hS kwL_39 (n_lots hX1 pv2 hKn ht hlk) hO1 rfl (Nat.le_of_ble_eq_true rfl) rfl hl.1 rfl (Nat.le_of_ble_eq_true rfl) (by omega) (by omega) dL_isPressed_164 (fun H9 L9 hG hz9 hE hS => ?_)
            have hG := hG.symm
            subst hG
            refine lv_aload_n hx hb dL_isPressed_167 rfl (lv_at hl 0 rfl) ?_
            refine lv_iload hx hb dL_isPressed_168 (lv_at hl 5 rfl) ?_
            refine lv_iload hx hb dL_isPressed_170 (lv_at hl 6 rfl) ?_
            refine lv_iconst (v := 1) hx hb dL_isPressed_172 (by decide) ?_
            refine lv_isub hx hb dL_isPressed_173 ?_
            rw [show nI k - 1 = nI (k - 1) from nI_sub hk0]
            refine gV hx hb hml hts hown hB hE hS kwL_39 (n_lots hX1 pv2 hKn ht (k := k - 1) (by omega)) hO1 rfl (Nat.le_of_ble_eq_true rfl) rfl hl.1 rfl (Nat.le_of_ble_eq_true rfl) (by omega) (by omega) dL_isPressed_174 (fun H10 L10 hG hz10 hE hS => ?_)
            have hG := hG.symm
            subst hG
            refine lv_icmp_gt (tgt := 203) hx hb dL_isPressed_177 (by decide) (fun q6 => ?_) (fun q6 => ?_)
            · exact absurd q6 (Int32.not_lt.mpr (lot_mono hT hGB _ (bfC_mono pv2 hT (by omega) (by omega))))
            refine lv_aload_n hx hb dL_isPressed_180 rfl (lv_at hl 0 rfl) ?_
            refine lv_iload hx hb dL_isPressed_181 (lv_at hl 5 rfl) ?_
            refine lv_iload hx hb dL_isPressed_183 (lv_at hl 6 rfl) ?_
            refine gV hx hb hml hts hown hB hE hS kwL_42 (n_start hX1 pv2 hKn ht hlk) hO1 rfl (Nat.le_of_ble_eq_true rfl) rfl hl.1 rfl (Nat.le_of_ble_eq_true rfl) (by omega) (by omega) dL_isPressed_185 (fun H11 L11 hG hz11 hE hS => ?_)
            have hG := hG.symm
            subst hG
            refine lv_aload_n hx hb dL_isPressed_188 rfl (lv_at hl 0 rfl) ?_
            refine lv_iload hx hb dL_isPressed_189 (lv_at hl 5 rfl) ?_
            refine lv_iload hx hb dL_isPressed_191 (lv_at hl 6 rfl) ?_
            refine gV hx hb hml hts hown hB hE hS kwL_21 (n_end hX1 pv2 hKn ht hlk) hO1 rfl (Nat.le_of_ble_eq_true rfl) rfl hl.1 rfl (Nat.le_of_ble_eq_true rfl) (by omega) (by omega) dL_isPressed_193 (fun H12 L12 hG hz12 hE hS => ?_)
            have hG := hG.symm
            subst hG
            refine lv_icmp_gt (tgt := 203) hx hb dL_isPressed_196 (by decide) (fun q8 => ?_) (fun q8 => ?_)
            · exact absurd q8 (Int32.not_lt.mpr (bfC_mono pv2 hT (Nat.le_succ k) (by omega)))
            refine lv_iconst (v := 1) hx hb dL_isPressed_199 (by decide) ?_
            refine lv_goto (tgt := 204) hx hb dL_isPressed_200 (by decide) ?_
            refine lv_istore (lv' := [(11, .int 1), (0, .ref x), (1, .ref pe), (2, .int (nI d)), (3, .int (nI a)), (12, .int (nI i)), (13, .int (nI k))]) hx hb dL_isPressed_204 hl (by decide) rfl (fun ls hl => ?_)
            refine lv_iinc (v := nI (k + 1)) (lv' := [(13, .int (nI (k + 1))), (11, .int 1), (0, .ref x), (1, .ref pe), (2, .int (nI d)), (3, .int (nI a)), (12, .int (nI i))]) hx hb dL_isPressed_206 hl (k := 6) rfl (nI_1 k) (by decide) rfl (fun ls hl => ?_)
            refine lv_goto (tgt := 129) hx hb dL_isPressed_209 (by decide) ?_
            exact ih3 (k + 1) _ _ L12 ls (by omega) (by omega) (by omega) hS (lv_sub hl [2, 3, 4, 5, 1, 6, 0] rfl)
      exact loop3 (np tr) 0 c9 s9 locs ls (by omega) (by omega) (by omega) hS (lv_sub hl [1, 2, 3, 4, 5, 6, 0] rfl)
  exact loop2 PF.1 0 ((((((((0 + 3) + 3) + 3) + (1 + 4 * PF.2.2.1)) + 3) + 3) + 3)) ((((((((0 + 18) + 18) + 18) + (6 + D * PF.2.2.1)) + 18) + 18) + 18)) L7 ls rfl (Nat.zero_le _) (by omega) (by omega) hS (lv_sub hl [6, 7, 8, 9, 1, 0] rfl)
