theorem LRo.lab {E : ET} {ow ow' : Nat → Nat × Nat} {L a c : Nat} {ad : Nat → Nat} {H : Heap} (h : LRo E ow L a c ad H) (hw : ∀ q, (ow q).1 = L → ow' q = ow q) : LRo E ow' L a c ad H := by
  obtain ⟨mo, arr, n, f, hO, hA, h1, h2, h3, h4, h5, h6⟩ := h
  exact ⟨mo, arr, n, f, hO, hA, h1, h2, h3, by rw [hw a (by rw [h4])]; exact h4, h5, h6.imp id (fun g => ⟨by rw [hw arr (by rw [g.1])]; exact g.1, g.2⟩)⟩
theorem DRo.lab {E : ET} {ow ow' : Nat → Nat × Nat} {L d : Nat} {es : Dy} {H : Heap} (h : DRo E ow L d es H) (hw : ∀ q, (ow q).1 = L → ow' q = ow q) : DRo E ow' L d es H := by
  obtain ⟨a, ad, hO, hL, hEs, h1, h2⟩ := h
  exact ⟨a, ad, hO, hL.lab hw, fun i x hx => ⟨(hEs i x hx).1, by rw [hw _ (by rw [(hEs i x hx).2.1])]; exact (hEs i x hx).2.1, (hEs i x hx).2.2⟩, by rw [hw d (by rw [h1])]; exact h1, h2⟩
theorem getA {α : Type} {l : List α} {x y : α} {t : Nat} (h : (l ++ [x])[t]? = some y) : (l[t]? = some y ∧ t < l.length) ∨ (t = l.length ∧ y = x) := by
  rcases Nat.lt_trichotomy t l.length with c | c | c
  · rw [List.getElem?_append_left c] at h
    exact Or.inl ⟨h, c⟩
  · rw [c, List.getElem?_append_right (Nat.le_refl _), Nat.sub_self] at h
    exact Or.inr ⟨c, by simpa using h.symm⟩
  · rw [List.getElem?_eq_none (by rw [List.length_append]; show l.length + 1 ≤ t; omega)] at h
    cases h
set_option maxRecDepth 100000 in
set_option maxHeartbeats 4000000 in
/-- trade -/
theorem c_xtrd (E : ET) (ow : Nat → Nat × Nat) (x : Nat) (h0 h1 fx : Dy) (ts : List TR) (pa lo py fi fs le pe : Int32) (H : Heap) (hX : XR E ow x h0 h1 fx ts H) (hV : SV h0 h1 fx ts) (hK : BL ts) (hpy : py = 0 ∨ py = 1) : XCon E yX4_trade cX4_trade 9 (some FieldType.int) 10 14 110 [.ref x, .int pa, .int lo, .int py, .int fi, .int fs, .int le, .int pe] H (fun v H' => (cdTrd ts pa lo fi fs le pe = 0 ∧ v = some (.int (nI ts.length))) ∧ XOut E ow x h0 h1 fx (ts ++ [(mkT pa lo py fi fs le pe, [], [])]) H H') (fun X => cdTrd ts pa lo fi fs le pe ≠ 0 ∧ X = xn2 (cdTrd ts pa lo fi fs le pe)) := by
  refine XCon.of (C := RX4) rfl (by decide +kernel) (Nat.le_of_ble_eq_true rfl) ?_
  intro p e s m below meth co ls hx hb hr hlk hml hown hts hxt hE hH hS hl
  have hl : lv_has ls 9 [(0, .ref x), (1, .int pa), (2, .int lo), (3, .int py), (4, .int fi), (5, .int fs), (6, .int le), (7, .int pe)] := hl
  have hB : eB E ≤ s.heap.size := by rw [hH]; exact hE.2.1
  have hE0 : EV E s s.heap := by rw [hH]; exact hE
  obtain ⟨q, fd, bk, wa, hX2⟩ := hX.x
  obtain ⟨hC, hD, hL, hT⟩ := hX2.rd hV hK
  have hO := hX2.1
  have hBF := hE.2.2.1
  have v0 := hV.1
  have v1 := hV.2.1
  have htn := hV.tn
  have hwl := plt hO
  refine lv_iload_n hx hb dX4_trade_0 rfl (lv_at hl 1 rfl) ?_
  refine xSc hx hb hml hlk hxt hts hown hB hE hH hS kwX4_81 (c_cparty E pa H) (fun X h => by have e9 : cdTrd ts pa lo fi fs le pe = 1 := (by unfold cdTrd; rw [h.2]; rfl); rw [e9]; exact ⟨by decide, h.1⟩) (Nat.le_of_ble_eq_true rfl) rfl hl.1 rfl (Nat.le_of_ble_eq_true rfl) (by omega) (by omega) dX4_trade_1 (fun v1 H1 L1 ho1 hz1 hE hS => ?_)
  obtain ⟨g0, hv1, hh1⟩ := ho1
  subst hv1
  have hh1 := hh1.symm
  subst hh1
  dsimp only [Option.toList, List.nil_append, List.cons_append]
  refine lv_iload_n hx hb dX4_trade_4 rfl (lv_at hl 2 rfl) ?_
  refine lv_iconst (v := 1) hx hb dX4_trade_5 (by decide) ?_
  refine lv_sipush (v := 1000) hx hb dX4_trade_6 (by decide) ?_
  refine xSc hx hb hml hlk hxt hts hown hB hE hH hS kwX4_37 (c_crange E lo 1 1000 H) (fun X h => by have e9 : cdTrd ts pa lo fi fs le pe = 2 := (by unfold cdTrd; rw [g0, h.2]; simp); rw [e9]; exact ⟨by decide, h.1⟩) (Nat.le_of_ble_eq_true rfl) rfl hl.1 rfl (Nat.le_of_ble_eq_true rfl) (by omega) (by omega) dX4_trade_9 (fun v2 H2 L2 ho2 hz2 hE hS => ?_)
  obtain ⟨g1, hv2, hh2⟩ := ho2
  subst hv2
  have hh2 := hh2.symm
  subst hh2
  dsimp only [Option.toList, List.nil_append, List.cons_append]
  refine lv_iload hx hb dX4_trade_12 (lv_at hl 4 rfl) ?_
  refine lv_sipush (v := (-500)) hx hb dX4_trade_14 (by decide) ?_
  refine lv_sipush (v := 2000) hx hb dX4_trade_17 (by decide) ?_
  refine xSc hx hb hml hlk hxt hts hown hB hE hH hS kwX4_37 (c_crange E fi (-500) 2000 H) (fun X h => by have e9 : cdTrd ts pa lo fi fs le pe = 2 := (by unfold cdTrd; rw [g0, g1, h.2]; simp); rw [e9]; exact ⟨by decide, h.1⟩) (Nat.le_of_ble_eq_true rfl) rfl hl.1 rfl (Nat.le_of_ble_eq_true rfl) (by omega) (by omega) dX4_trade_20 (fun v3 H3 L3 ho3 hz3 hE hS => ?_)
  obtain ⟨g2, hv3, hh3⟩ := ho3
  subst hv3
  have hh3 := hh3.symm
  subst hh3
  dsimp only [Option.toList, List.nil_append, List.cons_append]
  refine lv_iload hx hb dX4_trade_23 (lv_at hl 5 rfl) ?_
  refine lv_iconst (v := 0) hx hb dX4_trade_25 (by decide) ?_
  refine lv_sipush (v := 1000) hx hb dX4_trade_26 (by decide) ?_
  refine xSc hx hb hml hlk hxt hts hown hB hE hH hS kwX4_37 (c_crange E fs 0 1000 H) (fun X h => by have e9 : cdTrd ts pa lo fi fs le pe = 2 := (by unfold cdTrd; rw [g0, g1, g2, h.2]; simp); rw [e9]; exact ⟨by decide, h.1⟩) (Nat.le_of_ble_eq_true rfl) rfl hl.1 rfl (Nat.le_of_ble_eq_true rfl) (by omega) (by omega) dX4_trade_29 (fun v4 H4 L4 ho4 hz4 hE hS => ?_)
  obtain ⟨g3, hv4, hh4⟩ := ho4
  subst hv4
  have hh4 := hh4.symm
  subst hh4
  dsimp only [Option.toList, List.nil_append, List.cons_append]
  refine lv_iload hx hb dX4_trade_32 (lv_at hl 6 rfl) ?_
  refine lv_iconst (v := 5) hx hb dX4_trade_34 (by decide) ?_
  refine lv_sipush (v := 180) hx hb dX4_trade_35 (by decide) ?_
  refine xSc hx hb hml hlk hxt hts hown hB hE hH hS kwX4_37 (c_crange E le 5 180 H) (fun X h => by have e9 : cdTrd ts pa lo fi fs le pe = 2 := (by unfold cdTrd; rw [g0, g1, g2, g3, h.2]; simp); rw [e9]; exact ⟨by decide, h.1⟩) (Nat.le_of_ble_eq_true rfl) rfl hl.1 rfl (Nat.le_of_ble_eq_true rfl) (by omega) (by omega) dX4_trade_38 (fun v5 H5 L5 ho5 hz5 hE hS => ?_)
  obtain ⟨g4, hv5, hh5⟩ := ho5
  subst hv5
  have hh5 := hh5.symm
  subst hh5
  dsimp only [Option.toList, List.nil_append, List.cons_append]
  refine lv_iload hx hb dX4_trade_41 (lv_at hl 7 rfl) ?_
  refine lv_iconst (v := 1) hx hb dX4_trade_43 (by decide) ?_
  refine lv_bipush (v := 10) hx hb dX4_trade_44 (by decide) ?_
  refine xSc hx hb hml hlk hxt hts hown hB hE hH hS kwX4_37 (c_crange E pe 1 10 H) (fun X h => by have e9 : cdTrd ts pa lo fi fs le pe = 2 := (by unfold cdTrd; rw [g0, g1, g2, g3, g4, h.2]; simp); rw [e9]; exact ⟨by decide, h.1⟩) (Nat.le_of_ble_eq_true rfl) rfl hl.1 rfl (Nat.le_of_ble_eq_true rfl) (by omega) (by omega) dX4_trade_46 (fun v6 H6 L6 ho6 hz6 hE hS => ?_)
  obtain ⟨g5, hv6, hh6⟩ := ho6
  subst hv6
  have hh6 := hh6.symm
  subst hh6
  dsimp only [Option.toList, List.nil_append, List.cons_append]
  obtain ⟨nfs, -, vfs, efs⟩ := inB_nI2 (a := 0) (b := 1000) g3
  obtain ⟨nle, vle1, vle, ele⟩ := inB_nI2 (a := 5) (b := 180) g4
  obtain ⟨npe, vpe1, vpe, epe⟩ := inB_nI2 (a := 1) (b := 10) g5
  have hall : (inB lo 1 1000 && (inB fi (-500) 2000 && (inB fs 0 1000 && (inB le 5 180 && inB pe 1 10)))) = true := by rw [g1, g2, g3, g4, g5]; rfl
  obtain ⟨fs0, hOb, hcl⟩ := hL.ob
  refine lv_aload_n hx hb dX4_trade_49 rfl (lv_at hl 0 rfl) ?_
  refine gf hx hb hts hown hE lkX4_26 hO rfl dX4_trade_50 ?_
  refine pV hx hb hml hts hown hE kwX4_85 (c_size E bk ts.length wa H hL) hOb rfl (Nat.le_of_ble_eq_true rfl) rfl hl.1 rfl (Nat.le_of_ble_eq_true rfl) (by omega) (by omega) dX4_trade_53 ?_
  refine lv_bipush (v := 10) hx hb dX4_trade_56 (by decide) ?_
  refine lv_icmp_lt (tgt := 71) hx hb dX4_trade_58 (by decide) (fun c1 => ?_) (fun c1 => ?_)
  · have c2 : ts.length < 10 := by
      rcases Nat.lt_or_ge ts.length 10 with q9 | q9
      · exact q9
      · exact absurd c1 (nI_nlt (a := ts.length) (b := 10) q9 (by omega))
    have hcd : cdTrd ts pa lo fi fs le pe = 0 := by unfold cdTrd; rw [g0, hall]; simp only [if_true]; exact if_neg (Nat.not_le.mpr c2)
    obtain ⟨hO, hC5, hD5, hL5, hT5, hox, hgx⟩ := hX2
    have hOb0 := hOb
    refine nw (fs := [.int 0, .int 0, .int 0, .int 0, .int 0, .int 0, .int 0, .int 0, .int 0, .int 0, .null, .null, .null]) hx hb hts hown hE hS nkX4_90 (fun j hj => by rcases (show j = 0 ∨ j = 1 ∨ j = 2 ∨ j = 3 ∨ j = 4 ∨ j = 5 ∨ j = 6 ∨ j = 7 ∨ j = 8 ∨ j = 9 ∨ j = 10 ∨ j = 11 ∨ j = 12 by omega) with rfl | rfl | rfl | rfl | rfl | rfl | rfl | rfl | rfl | rfl | rfl | rfl | rfl <;> rfl) (by omega) (by omega) dX4_trade_71 (fun w H7 ea7 hWn hz7 hq7 hE hS hg7 => ?_)
    have hO := pk3 hO hq7
    have hOb := pk3 hOb hq7
    have hn1 : ∀ z, z < H.size → H7[z]? = H[z]? := hq7
    have hgB : eB E ≤ H.size := by rw [← hH]; exact hB
    have how : owx (fun _ => ((0, 9) : Nat × Nat)) H (10 + 3 * ts.length, 0) w = (10 + 3 * ts.length, 0) := owx_new (by omega)
    refine lv_dup hx hb dX4_trade_74 rfl ?_
    refine lv_iload_n hx hb dX4_trade_75 rfl (lv_at hl 1 rfl) ?_
    refine lv_iload_n hx hb dX4_trade_76 rfl (lv_at hl 2 rfl) ?_
    refine lv_iload_n hx hb dX4_trade_77 rfl (lv_at hl 3 rfl) ?_
    refine lv_iload hx hb dX4_trade_78 (lv_at hl 4 rfl) ?_
    refine lv_iload hx hb dX4_trade_80 (lv_at hl 5 rfl) ?_
    refine lv_iload hx hb dX4_trade_82 (lv_at hl 6 rfl) ?_
    refine lv_iload hx hb dX4_trade_84 (lv_at hl 7 rfl) ?_
    refine gI hx hb hml hts hown hB hE hS kwX4_92 (c_sini E (owx (fun _ => (0, 9)) H (10 + 3 * ts.length, 0)) (10 + 3 * ts.length) w pa lo py fi fs le pe H7 hWn hpy hg7 how) (Nat.le_of_ble_eq_true rfl) rfl hl.1 rfl (Nat.le_of_ble_eq_true rfl) (by omega) (by omega) dX4_trade_86 (fun H8 L8 hG hz8 hE hS => ?_)
    obtain ⟨owB, e1, e2, hS2, hF2⟩ := hG
    have hn2 : ∀ z, z < H.size → H8[z]? = H[z]? := fun z hz => (hF2.2 z (by omega) (fun e => by have e : z = w := e; omega)).trans (hn1 z hz)
    have hz9 : H.size < H8.size := by have := hF2.1; omega
    obtain ⟨ow2, eo, en⟩ : ∃ f : Nat → Nat × Nat, (∀ z, z < H.size → f z = ow z) ∧ ∀ z, H.size ≤ z → f z = owB z := ⟨fun z => if z < H.size then ow z else owB z, fun z hz => if_pos hz, fun z hz => if_neg (Nat.not_lt.mpr hz)⟩
    have hlab : ∀ z, 10 ≤ (owB z).1 → H.size ≤ z := fun z hz => by
      rcases Nat.lt_or_ge z H.size with q9 | q9
      · rw [e1 z (by omega), owx_old q9] at hz; exact absurd hz (by decide)
      · exact q9
    have lowN : ∀ z, z < eB E → H8[z]? = H[z]? := fun z hz => hn2 z (by omega)
    have hC2 : CRo E ow2 q h0 h1 H8 := hC5.kept lowN hBF (fun z h9 _ => hn2 z h9) eo
    have hL2 : LRo E ow2 5 bk ts.length wa H8 := hL5.kept lowN hBF (fun z h9 _ => hn2 z h9) eo
    have hO : OB E 5 [.ref q, .ref fd, .ref bk] x H8 := pk1 hO (by rw [hn2 x hwl, hn1 x hwl])
    obtain ⟨db, dh, bd, hW0, hdb, hdh, hbd, hw2, hob, gw, gb⟩ := hS2
    have hbo : H.size ≤ bd := hlab bd (by rw [hob]; show 10 ≤ 10 + 3 * ts.length; omega)
    have hdb : DRo E ow2 _ db [] _ := hdb.lab (fun z hz => en z (hlab z (by omega)))
    have hdh : DRo E ow2 _ dh [] _ := hdh.lab (fun z hz => en z (hlab z (by omega)))
    have hob : ow2 bd = _ := (en bd hbo).trans hob
    have hw2 : ow2 w = _ := (en w (by omega)).trans hw2
    have e2l : ∀ z, H.size ≤ z → 10 ≤ (ow2 z).1 := fun z hz => by
      rw [en z hz]
      rcases Nat.lt_or_ge z H7.size with q9 | q9
      · rw [e1 z q9, owx_new hz]; show 10 ≤ 10 + 3 * ts.length; omega
      · have := (e2 z q9).1; omega
    refine lv_astore (lv' := [(8, .ref w), (0, .ref x), (1, .int pa), (2, .int lo), (3, .int py), (4, .int fi), (5, .int fs), (6, .int le), (7, .int pe)]) hx hb dX4_trade_89 hl (by decide) rfl (fun ls hl => ?_)
    refine lv_aload hx hb dX4_trade_91 (lv_at hl 0 rfl) ?_
    refine lv_aload_n hx hb dX4_trade_93 rfl (lv_at hl 1 rfl) ?_
    refine gf hx hb hts hown hE lkX4_10 hO rfl dX4_trade_94 ?_
    refine gVU hx hb hml hts hown hB hE hS kwX4_95 (c_rollDays E ow2 (10 + 3 * ts.length) w q db dh bd nfs nle npe (mkT pa lo py fi fs le pe) (fun _ => 0) h0 h1 H8 hW0 hbd hC2 v0 v1 hw2 hob (by omega) gb efs ele epe vfs vle vpe (fun _ _ => rfl)) hW0 rfl (Nat.le_of_ble_eq_true rfl) rfl hl.1 rfl (Nat.le_of_ble_eq_true rfl) (by omega) (by omega) dX4_trade_97 (fun H9 L9 hG hz9 hE hS => ?_)
    obtain ⟨hbd3, hF3, hz8⟩ := hG
    have hdl := plt hbd
    have hwl2 := plt hW0
    have hn3 : ∀ z, z < H.size → H9[z]? = H[z]? := fun z hz => (hF3.2 z (by omega) (fun e => by have e : z = bd := e; omega)).trans (hn2 z hz)
    have lowM : ∀ z, z < eB E → H9[z]? = H[z]? := fun z hz => hn3 z (by omega)
    have hL3 : LRo E ow2 5 bk ts.length wa H9 := hL5.kept lowM hBF (fun z h9 _ => hn3 z h9) eo
    have hO := hF3.at hO (fun e => by have e : x = bd := e; omega)
    have hW3 := hF3.at hW0 (fun e => by have e : w = bd := e; rw [e, hob] at hw2; cases hw2)
    have hOb := pk1 hOb0 (hn3 bk (plt hOb0))
    have hwa : ∀ i, i < ts.length → ∃ tr, ts[i]? = some tr ∧ SRo E ow (10 + 3 * i) (wa i) tr (bfC h0 h1 tr.1) H := fun i hi => by obtain ⟨tr, ht⟩ := getq hi; exact ⟨tr, ht, hT5 i tr ht⟩
    refine lv_aload_n hx hb dX4_trade_100 rfl (lv_at hl 1 rfl) ?_
    refine gf hx hb hts hown hE lkX4_26 hO rfl dX4_trade_101 ?_
    refine lv_aload hx hb dX4_trade_104 (lv_at hl 0 rfl) ?_
    refine gV hx hb hml hts hown hB hE hS kwX4_99 (c_add E ow2 5 bk w ts.length wa 4 (tfs (mkT pa lo py fi fs le pe) db dh bd) RX3 TX3 13 H9 hL3 (by omega) hW3 rfl (by decide) (fun i hi => ?_) (by rw [hw2]; exact ⟨(by show (0 : Nat) ≠ 1; decide), (by show (0 : Nat) ≠ 2; decide)⟩) (fun i hi e9 => ?_)) hOb rfl (Nat.le_of_ble_eq_true rfl) rfl hl.1 rfl (Nat.le_of_ble_eq_true rfl) (by omega) (by omega) dX4_trade_106 (fun H10 L10 hG hz10 hE hS => ?_)
    · obtain ⟨tr, ht, dx, dy, dz, s1, -⟩ := hwa i hi
      exact ⟨_, pk1 s1 (hn3 _ (plt s1))⟩
    · obtain ⟨tr, ht, dx, dy, dz, s1, -, -, -, s5, -⟩ := hwa i hi
      obtain ⟨mo, arr, n9, f9, l1, l2, l3, l4, l5, l6, -⟩ := id hL5
      rw [e9, l6] at s5
      exact absurd (congrArg (fun z : Nat × Nat => z.2) s5) (by show ¬ (1 : Nat) = 0; decide)
    obtain ⟨hL4, hF4⟩ := hG
    have hN4 : ∀ z, z < H9.size → (ow2 z).1 ≠ 5 → H10[z]? = H9[z]? := fun z hz h9 => hF4.2 z hz (fun e => h9 (by rcases e with e | e <;> rw [e]))
    have e4 : ∀ z, z < H9.size → owx ow2 H9 (5, 2) z = ow2 z := fun z hz => owx_old hz
    have hO := hF4.at hO (by show ¬ (ow2 x = (5, 1) ∨ ow2 x = (5, 2)); rw [eo x hwl, hox]; decide)
    have low4 : ∀ z, z < eB E → H10[z]? = H9[z]? := fun z hz => (hS.low hH hB z hz).trans (lowM z hz).symm
    have hL8 := hL4.LR (by omega)
    obtain ⟨fs8, hOb8, -⟩ := hL8.ob
    refine lv_pop hx hb dX4_trade_109 rfl ?_
    refine lv_aload_n hx hb dX4_trade_110 rfl (lv_at hl 1 rfl) ?_
    refine gf hx hb hts hown hE lkX4_26 hO rfl dX4_trade_111 ?_
    refine pV hx hb hml hts hown hE kwX4_85 (c_size E bk (ts.length + 1) (va_up wa ts.length w) H10 hL8) hOb8 rfl (Nat.le_of_ble_eq_true rfl) rfl hl.1 rfl (Nat.le_of_ble_eq_true rfl) (by omega) (by omega) dX4_trade_114 ?_
    refine lv_iconst (v := 1) hx hb dX4_trade_117 (by decide) ?_
    refine lv_isub hx hb dX4_trade_118 ?_
    refine vx_ret (cI hx hb hr hlk hB hS (by omega) (by omega) ⟨⟨hcd, by rw [nI_pred]⟩, owx ow2 H9 (5, 2), fun z h9 => by rw [e4 z (by omega)]; exact eo z h9, fun z h9 => ?_, ⟨q, fd, bk, va_up wa ts.length w, hO, ?_, ?_, by rw [List.length_append]; exact hL4, fun u ur hu => ?_, by rw [e4 x (by omega), eo x hwl]; exact hox, hgx⟩, ⟨by have := hF4.1; omega, fun z h9 h8 => ?_⟩⟩ dX4_trade_119)
    · by_cases c9 : z < H9.size
      · rw [e4 z c9]; have := e2l z h9; omega
      · rw [owx_new (by omega)]; decide
    · exact hC5.kept (fun z hz => (low4 z hz).trans (lowM z hz)) hBF (fun z h9 h8 => (hN4 z (by omega) (by rw [eo z h9]; omega)).trans (hn3 z h9)) (fun z h9 => by rw [e4 z (by omega)]; exact eo z h9)
    · exact hD5.kept (fun z hz => (low4 z hz).trans (lowM z hz)) hBF (fun z h9 h8 => (hN4 z (by omega) (by rw [eo z h9]; omega)).trans (hn3 z h9)) (fun z h9 => by rw [e4 z (by omega)]; exact eo z h9)
    · rcases getA hu with ⟨hu1, hu2⟩ | ⟨hu1, hu2⟩
      · have e9 : va_up wa ts.length w u = wa u := by simp only [va_up, if_neg (Nat.ne_of_lt hu2)]
        rw [e9]
        exact (hT5 u ur hu1).kept (fun z hz => (low4 z hz).trans (lowM z hz)) hBF (fun z h9 h8 => (hN4 z (by omega) (by rw [eo z h9]; omega)).trans (hn3 z h9)) (fun z h9 => by rw [e4 z (by omega)]; exact eo z h9)
      · subst hu1 hu2
        have e9 : va_up wa ts.length w ts.length = w := by simp [va_up]
        rw [e9]
        exact ⟨db, dh, bd, pk1 hW3 (hN4 w (by omega) (by rw [hw2]; show 10 + 3 * ts.length ≠ 5; omega)), hdb.kept (fun z hz => (low4 z hz).trans ((lowM z hz).trans (lowN z hz).symm)) hBF (fun z h9 h8 => (hN4 z (by omega) (by omega)).trans (hF3.2 z h9 (fun e => by have e : z = bd := e; rw [e, hob] at h8; have h8 : 10 + 3 * ts.length = _ := h8; omega))) (fun z h9 => e4 z (by omega)), hdh.kept (fun z hz => (low4 z hz).trans ((lowM z hz).trans (lowN z hz).symm)) hBF (fun z h9 h8 => (hN4 z (by omega) (by omega)).trans (hF3.2 z h9 (fun e => by have e : z = bd := e; rw [e, hob] at h8; have h8 : 10 + 3 * ts.length = _ := h8; omega))) (fun z h9 => e4 z (by omega)), pk1 hbd3 (hN4 bd (by omega) (by rw [hob]; show 10 + 3 * ts.length ≠ 5; omega)), by rw [e4 w (by omega)]; exact hw2, by rw [e4 bd (by omega)]; exact hob, gw, gb⟩
    · have h8 : ¬ (ow z).1 ≠ 4 := h8
      exact (hN4 z (by omega) (by rw [eo z h9]; omega)).trans (hn3 z h9)
  · have c2 : 10 ≤ ts.length := by
      rcases Nat.lt_or_ge ts.length 10 with q9 | q9
      · exact absurd (nI_lt (a := ts.length) (b := 10) q9 (by decide)) c1
      · exact q9
    have hcd : cdTrd ts pa lo fi fs le pe = 3 := by unfold cdTrd; rw [g0, hall]; simp only [if_true]; exact if_pos c2
    exact tS (is := 88) (text := "no room for another trade") hx hb hml hlk hxt hts hown hE0 hH hS txS (by decide) (by rw [hcd]; exact ⟨by decide, rfl⟩) hl.1 (Nat.le_of_ble_eq_true rfl) (Nat.le_of_ble_eq_true rfl) (by omega) (by omega) dX4_trade_61 dX4_trade_64 dX4_trade_65 dX4_trade_67 dX4_trade_70
