set_option maxRecDepth 100000 in
set_option maxHeartbeats 4000000 in
/-- areLike -/
theorem c_like (E : ET) (x : Nat) (sc : Nat → Int32) (ad : Nat → Nat) (ar : Nat → Nat → Int32) (h0 h1 fx : Dy) (ts : List TR) (B : BK) (t u : Nat) (tr ur : TR) (H : Heap) (hX : MX E x sc ad ar H) (hI : MI sc ar h0 h1 fx ts B) (hV : SV h0 h1 fx ts) (ht : ts[t]? = some tr) (hu : ts[u]? = some ur) : PCon E yX5_areLike cX5_areLike 4 (some FieldType.boolean) 1 [.ref x, .int (nI t), .int (nI u)] H (some (.int (if fitS tr.1 ur.1 then 1 else 0))) := by
  refine PCon.of (C := RX5) rfl (by decide +kernel) (Nat.le_of_ble_eq_true rfl) ?_
  intro p e s m below meth co ls hx hb hr hlk hml hown hts hE hH hl
  have hl : lv_has ls 4 [(0, .ref x), (1, .int (nI t)), (2, .int (nI u))] := hl
  have hA9 : ZA E 10 (ar 9) (ad 9) H := hX.2 9 rfl
  have hA10 : IA E 10 (ar 10) (ad 10) H := hX.2 10 rfl
  have hA11 : IA E 10 (ar 11) (ad 11) H := hX.2 11 rfl
  have hA12 : IA E 10 (ar 12) (ad 12) H := hX.2 12 rfl
  have hA13 : IA E 10 (ar 13) (ad 13) H := hX.2 13 rfl
  have hA14 : IA E 10 (ar 14) (ad 14) H := hX.2 14 rfl
  have hA15 : IA E 10 (ar 15) (ad 15) H := hX.2 15 rfl
  have hA16 : IA E 10 (ar 16) (ad 16) H := hX.2 16 rfl
  have htl_ : t < 10 := by
    have := (List.getElem?_eq_some_iff.mp ht).1
    have := hV.2.2.2.2.2.2.2.1
    omega
  obtain ⟨pa_, lo_, f_, le_, n_, v1_, v2_, v3_, v4_, v5_, v6_, v7_, v8_, t0_, t1_, t2_, t4_, t5_, t6_, t8_, t9_, tb_, th_⟩ := hV.2.2.2.2.2.2.2.2 tr (List.mem_of_getElem? ht)
  have hF_ : ∀ j, j < 10 → ar (7 + j) t = tr.1 j := hI.2.2.2.2.2.1 t tr ht
  have htl9 : u < 10 := by
    have := (List.getElem?_eq_some_iff.mp hu).1
    have := hV.2.2.2.2.2.2.2.1
    omega
  obtain ⟨pa9, lo9, f9, le9, n9, v19, v29, v39, v49, v59, v69, v79, v89, t09, t19, t29, t49, t59, t69, t89, t99, tb9, th9⟩ := hV.2.2.2.2.2.2.2.2 ur (List.mem_of_getElem? hu)
  have hF9 : ∀ j, j < 10 → ar (7 + j) u = ur.1 j := hI.2.2.2.2.2.1 u ur hu
  refine lv_aload_n hx hb dX5_areLike_0 rfl (lv_at hl 0 rfl) ?_
  refine gf hx hb hts hown hE lkX5_32 hX.1 rfl dX5_areLike_1 ?_
  refine lv_iload_n hx hb dX5_areLike_4 rfl (lv_at hl 1 rfl) ?_
  refine aI hx hb hE hA10 rfl htl_ (by omega) (hF_ 3 (by omega)) dX5_areLike_5 ?_
  refine lv_aload_n hx hb dX5_areLike_6 rfl (lv_at hl 0 rfl) ?_
  refine gf hx hb hts hown hE lkX5_32 hX.1 rfl dX5_areLike_7 ?_
  refine lv_iload_n hx hb dX5_areLike_10 rfl (lv_at hl 2 rfl) ?_
  refine aI hx hb hE hA10 rfl htl9 (by omega) (hF9 3 (by omega)) dX5_areLike_11 ?_
  refine lv_icmp_ne (tgt := 64) hx hb dX5_areLike_12 (by decide) (fun c3 => ?_) (fun c3 => ?_)
  · refine lv_iconst (v := 0) hx hb dX5_areLike_64 (by decide) ?_
    refine lv_istore_n (lv' := [(3, .int 0), (0, .ref x), (1, .int (nI t)), (2, .int (nI u))]) hx hb dX5_areLike_65 rfl hl (by decide) rfl (fun ls hl => ?_)
    refine lv_iload_n hx hb dX5_areLike_66 rfl (lv_at hl 0 rfl) ?_
    refine lv_if_eq (tgt := 134) hx hb dX5_areLike_67 (by decide) (fun c0 => ?_) (fun c0 => ?_)
    rotate_left
    · exact absurd (by decide) c0
    refine lv_iconst (v := 0) hx hb dX5_areLike_134 (by decide) ?_
    exact pZ hx hb hr hlk hH (by simp [fitS, c3]) dX5_areLike_135
  · refine lv_aload_n hx hb dX5_areLike_15 rfl (lv_at hl 0 rfl) ?_
    refine gf hx hb hts hown hE lkX5_44 hX.1 rfl dX5_areLike_16 ?_
    refine lv_iload_n hx hb dX5_areLike_19 rfl (lv_at hl 1 rfl) ?_
    refine aI hx hb hE hA14 rfl htl_ (by omega) (hF_ 7 (by omega)) dX5_areLike_20 ?_
    refine lv_aload_n hx hb dX5_areLike_21 rfl (lv_at hl 0 rfl) ?_
    refine gf hx hb hts hown hE lkX5_44 hX.1 rfl dX5_areLike_22 ?_
    refine lv_iload_n hx hb dX5_areLike_25 rfl (lv_at hl 2 rfl) ?_
    refine aI hx hb hE hA14 rfl htl9 (by omega) (hF9 7 (by omega)) dX5_areLike_26 ?_
    refine lv_icmp_ne (tgt := 64) hx hb dX5_areLike_27 (by decide) (fun c7 => ?_) (fun c7 => ?_)
    · refine lv_iconst (v := 0) hx hb dX5_areLike_64 (by decide) ?_
      refine lv_istore_n (lv' := [(3, .int 0), (0, .ref x), (1, .int (nI t)), (2, .int (nI u))]) hx hb dX5_areLike_65 rfl hl (by decide) rfl (fun ls hl => ?_)
      refine lv_iload_n hx hb dX5_areLike_66 rfl (lv_at hl 0 rfl) ?_
      refine lv_if_eq (tgt := 134) hx hb dX5_areLike_67 (by decide) (fun c0 => ?_) (fun c0 => ?_)
      rotate_left
      · exact absurd (by decide) c0
      refine lv_iconst (v := 0) hx hb dX5_areLike_134 (by decide) ?_
      exact pZ hx hb hr hlk hH (by simp [fitS, c3, c7]) dX5_areLike_135
    · refine lv_aload_n hx hb dX5_areLike_30 rfl (lv_at hl 0 rfl) ?_
      refine gf hx hb hts hown hE lkX5_35 hX.1 rfl dX5_areLike_31 ?_
      refine lv_iload_n hx hb dX5_areLike_34 rfl (lv_at hl 1 rfl) ?_
      refine aI hx hb hE hA11 rfl htl_ (by omega) (hF_ 4 (by omega)) dX5_areLike_35 ?_
      refine lv_aload_n hx hb dX5_areLike_36 rfl (lv_at hl 0 rfl) ?_
      refine gf hx hb hts hown hE lkX5_35 hX.1 rfl dX5_areLike_37 ?_
      refine lv_iload_n hx hb dX5_areLike_40 rfl (lv_at hl 2 rfl) ?_
      refine aI hx hb hE hA11 rfl htl9 (by omega) (hF9 4 (by omega)) dX5_areLike_41 ?_
      refine lv_icmp_ne (tgt := 64) hx hb dX5_areLike_42 (by decide) (fun c4 => ?_) (fun c4 => ?_)
      · refine lv_iconst (v := 0) hx hb dX5_areLike_64 (by decide) ?_
        refine lv_istore_n (lv' := [(3, .int 0), (0, .ref x), (1, .int (nI t)), (2, .int (nI u))]) hx hb dX5_areLike_65 rfl hl (by decide) rfl (fun ls hl => ?_)
        refine lv_iload_n hx hb dX5_areLike_66 rfl (lv_at hl 0 rfl) ?_
        refine lv_if_eq (tgt := 134) hx hb dX5_areLike_67 (by decide) (fun c0 => ?_) (fun c0 => ?_)
        rotate_left
        · exact absurd (by decide) c0
        refine lv_iconst (v := 0) hx hb dX5_areLike_134 (by decide) ?_
        exact pZ hx hb hr hlk hH (by simp [fitS, c3, c7, c4]) dX5_areLike_135
      · refine lv_aload_n hx hb dX5_areLike_45 rfl (lv_at hl 0 rfl) ?_
        refine gf hx hb hts hown hE lkX5_38 hX.1 rfl dX5_areLike_46 ?_
        refine lv_iload_n hx hb dX5_areLike_49 rfl (lv_at hl 1 rfl) ?_
        refine aI hx hb hE hA12 rfl htl_ (by omega) (hF_ 5 (by omega)) dX5_areLike_50 ?_
        refine lv_aload_n hx hb dX5_areLike_51 rfl (lv_at hl 0 rfl) ?_
        refine gf hx hb hts hown hE lkX5_38 hX.1 rfl dX5_areLike_52 ?_
        refine lv_iload_n hx hb dX5_areLike_55 rfl (lv_at hl 2 rfl) ?_
        refine aI hx hb hE hA12 rfl htl9 (by omega) (hF9 5 (by omega)) dX5_areLike_56 ?_
        refine lv_icmp_ne (tgt := 64) hx hb dX5_areLike_57 (by decide) (fun c5 => ?_) (fun c5 => ?_)
        · refine lv_iconst (v := 0) hx hb dX5_areLike_64 (by decide) ?_
          refine lv_istore_n (lv' := [(3, .int 0), (0, .ref x), (1, .int (nI t)), (2, .int (nI u))]) hx hb dX5_areLike_65 rfl hl (by decide) rfl (fun ls hl => ?_)
          refine lv_iload_n hx hb dX5_areLike_66 rfl (lv_at hl 0 rfl) ?_
          refine lv_if_eq (tgt := 134) hx hb dX5_areLike_67 (by decide) (fun c0 => ?_) (fun c0 => ?_)
          rotate_left
          · exact absurd (by decide) c0
          refine lv_iconst (v := 0) hx hb dX5_areLike_134 (by decide) ?_
          exact pZ hx hb hr hlk hH (by simp [fitS, c3, c7, c4, c5]) dX5_areLike_135
        · refine lv_iconst (v := 1) hx hb dX5_areLike_60 (by decide) ?_
          refine lv_goto (tgt := 65) hx hb dX5_areLike_61 (by decide) ?_
          refine lv_istore_n (lv' := [(3, .int 1), (0, .ref x), (1, .int (nI t)), (2, .int (nI u))]) hx hb dX5_areLike_65 rfl hl (by decide) rfl (fun ls hl => ?_)
          refine lv_iload_n hx hb dX5_areLike_66 rfl (lv_at hl 0 rfl) ?_
          refine lv_if_eq (tgt := 134) hx hb dX5_areLike_67 (by decide) (fun c0 => ?_) (fun c0 => ?_)
          · exact absurd c0 (by decide)
          refine lv_aload_n hx hb dX5_areLike_70 rfl (lv_at hl 1 rfl) ?_
          refine gf hx hb hts hown hE lkX5_41 hX.1 rfl dX5_areLike_71 ?_
          refine lv_iload_n hx hb dX5_areLike_74 rfl (lv_at hl 2 rfl) ?_
          refine aI hx hb hE hA13 rfl htl_ (by omega) (hF_ 6 (by omega)) dX5_areLike_75 ?_
          refine lv_aload_n hx hb dX5_areLike_76 rfl (lv_at hl 1 rfl) ?_
          refine gf hx hb hts hown hE lkX5_41 hX.1 rfl dX5_areLike_77 ?_
          refine lv_iload_n hx hb dX5_areLike_80 rfl (lv_at hl 3 rfl) ?_
          refine aI hx hb hE hA13 rfl htl9 (by omega) (hF9 6 (by omega)) dX5_areLike_81 ?_
          refine lv_icmp_ne (tgt := 134) hx hb dX5_areLike_82 (by decide) (fun c6 => ?_) (fun c6 => ?_)
          · refine lv_iconst (v := 0) hx hb dX5_areLike_134 (by decide) ?_
            exact pZ hx hb hr hlk hH (by simp [fitS, c3, c7, c4, c5, c6]) dX5_areLike_135
          · refine lv_aload_n hx hb dX5_areLike_85 rfl (lv_at hl 1 rfl) ?_
            refine gf hx hb hts hown hE lkX5_47 hX.1 rfl dX5_areLike_86 ?_
            refine lv_iload_n hx hb dX5_areLike_89 rfl (lv_at hl 2 rfl) ?_
            refine aI hx hb hE hA15 rfl htl_ (by omega) (hF_ 8 (by omega)) dX5_areLike_90 ?_
            refine lv_aload_n hx hb dX5_areLike_91 rfl (lv_at hl 1 rfl) ?_
            refine gf hx hb hts hown hE lkX5_47 hX.1 rfl dX5_areLike_92 ?_
            refine lv_iload_n hx hb dX5_areLike_95 rfl (lv_at hl 3 rfl) ?_
            refine aI hx hb hE hA15 rfl htl9 (by omega) (hF9 8 (by omega)) dX5_areLike_96 ?_
            refine lv_icmp_ne (tgt := 134) hx hb dX5_areLike_97 (by decide) (fun c8 => ?_) (fun c8 => ?_)
            · refine lv_iconst (v := 0) hx hb dX5_areLike_134 (by decide) ?_
              exact pZ hx hb hr hlk hH (by simp [fitS, c3, c7, c4, c5, c6, c8]) dX5_areLike_135
            · refine lv_aload_n hx hb dX5_areLike_100 rfl (lv_at hl 1 rfl) ?_
              refine gf hx hb hts hown hE lkX5_50 hX.1 rfl dX5_areLike_101 ?_
              refine lv_iload_n hx hb dX5_areLike_104 rfl (lv_at hl 2 rfl) ?_
              refine aI hx hb hE hA16 rfl htl_ (by omega) (hF_ 9 (by omega)) dX5_areLike_105 ?_
              refine lv_aload_n hx hb dX5_areLike_106 rfl (lv_at hl 1 rfl) ?_
              refine gf hx hb hts hown hE lkX5_50 hX.1 rfl dX5_areLike_107 ?_
              refine lv_iload_n hx hb dX5_areLike_110 rfl (lv_at hl 3 rfl) ?_
              refine aI hx hb hE hA16 rfl htl9 (by omega) (hF9 9 (by omega)) dX5_areLike_111 ?_
              refine lv_icmp_ne (tgt := 134) hx hb dX5_areLike_112 (by decide) (fun c9 => ?_) (fun c9 => ?_)
              · refine lv_iconst (v := 0) hx hb dX5_areLike_134 (by decide) ?_
                exact pZ hx hb hr hlk hH (by simp [fitS, c3, c7, c4, c5, c6, c8, c9]) dX5_areLike_135
              · refine lv_aload_n hx hb dX5_areLike_115 rfl (lv_at hl 1 rfl) ?_
                refine gf hx hb hts hown hE lkX5_29 hX.1 rfl dX5_areLike_116 ?_
                refine lv_iload_n hx hb dX5_areLike_119 rfl (lv_at hl 2 rfl) ?_
                refine aZ hx hb hE hA9 rfl htl_ (by omega) (hF_ 2 (by omega)) dX5_areLike_120 ?_
                refine lv_aload_n hx hb dX5_areLike_121 rfl (lv_at hl 1 rfl) ?_
                refine gf hx hb hts hown hE lkX5_29 hX.1 rfl dX5_areLike_122 ?_
                refine lv_iload_n hx hb dX5_areLike_125 rfl (lv_at hl 3 rfl) ?_
                refine aZ hx hb hE hA9 rfl htl9 (by omega) (hF9 2 (by omega)) dX5_areLike_126 ?_
                refine lv_icmp_eq (tgt := 134) hx hb dX5_areLike_127 (by decide) (fun c2 => ?_) (fun c2 => ?_)
                · refine lv_iconst (v := 0) hx hb dX5_areLike_134 (by decide) ?_
                  exact pZ hx hb hr hlk hH (by simp [fitS, c3, c7, c4, c5, c6, c8, c9, c2]) dX5_areLike_135
                · refine lv_iconst (v := 1) hx hb dX5_areLike_130 (by decide) ?_
                  refine lv_goto (tgt := 135) hx hb dX5_areLike_131 (by decide) ?_
                  exact pZ hx hb hr hlk hH (by simp [fitS, c3, c7, c4, c5, c6, c8, c9, c2]) dX5_areLike_135

set_option maxRecDepth 100000 in
set_option maxHeartbeats 4000000 in
/-- haveOneParty -/
theorem c_one (E : ET) (x : Nat) (sc : Nat → Int32) (ad : Nat → Nat) (ar : Nat → Nat → Int32) (h0 h1 fx : Dy) (ts : List TR) (B : BK) (t u : Nat) (tr ur : TR) (day : Int32) (H : Heap) (hX : MX E x sc ad ar H) (hI : MI sc ar h0 h1 fx ts B) (hV : SV h0 h1 fx ts) (ht : ts[t]? = some tr) (hu : ts[u]? = some ur) : PCon E yX5_haveOneParty cX5_haveOneParty 7 (some FieldType.boolean) 4 [.ref x, .int (nI t), .int (nI u), .int day] H (some (.int (if smeS tr.1 ur.1 tr.2.2 ur.2.2 (bfC h0 h1 tr.1) day (tr.1 6).toNatClampNeg then 1 else 0))) := by
  refine PCon.of (C := RX5) rfl (by decide +kernel) (Nat.le_of_ble_eq_true rfl) ?_
  intro p e s m below meth co ls hx hb hr hlk hml hown hts hE hH hl
  have hl : lv_has ls 7 [(0, .ref x), (1, .int (nI t)), (2, .int (nI u)), (3, .int day)] := hl
  have hA13 : IA E 10 (ar 13) (ad 13) H := hX.2 13 rfl
  have htl_ : t < 10 := by
    have := (List.getElem?_eq_some_iff.mp ht).1
    have := hV.2.2.2.2.2.2.2.1
    omega
  obtain ⟨pa_, lo_, f_, le_, n_, v1_, v2_, v3_, v4_, v5_, v6_, v7_, v8_, t0_, t1_, t2_, t4_, t5_, t6_, t8_, t9_, tb_, th_⟩ := hV.2.2.2.2.2.2.2.2 tr (List.mem_of_getElem? ht)
  have hF_ : ∀ j, j < 10 → ar (7 + j) t = tr.1 j := hI.2.2.2.2.2.1 t tr ht
  have en : (tr.1 6).toNatClampNeg = n_ := by rw [t6_, nI_clamp (by omega)]
  rw [en]
  refine lv_iconst (v := 0) hx hb dX5_haveOneParty_0 (by decide) ?_
  refine lv_istore (lv' := [(4, .int 0), (0, .ref x), (1, .int (nI t)), (2, .int (nI u)), (3, .int day)]) hx hb dX5_haveOneParty_1 hl (by decide) rfl (fun ls hl => ?_)
  refine lv_iconst (v := 1) hx hb dX5_haveOneParty_3 (by decide) ?_
  refine lv_istore (lv' := [(5, .int 1), (4, .int 0), (0, .ref x), (1, .int (nI t)), (2, .int (nI u)), (3, .int day)]) hx hb dX5_haveOneParty_4 hl (by decide) rfl (fun ls hl => ?_)
  refine lv_iconst (v := 0) hx hb dX5_haveOneParty_6 (by decide) ?_
  refine lv_istore (lv' := [(6, .int 0), (5, .int 1), (4, .int 0), (0, .ref x), (1, .int (nI t)), (2, .int (nI u)), (3, .int day)]) hx hb dX5_haveOneParty_7 hl (by decide) rfl (fun ls hl => ?_)
  have loop : ∀ (q i c : Nat) (ls : Array Slot), i + q = n_ → c ≤ i → (0 < c ↔ (smpS tr.1 ur.1 tr.2.2 ur.2.2 (bfC h0 h1 tr.1) day i).1 = true) → lv_has ls 7 [(6, .int (nI i)), (5, .int (if (smpS tr.1 ur.1 tr.2.2 ur.2.2 (bfC h0 h1 tr.1) day i).2 then 1 else 0)), (4, .int (nI c)), (0, .ref x), (1, .int (nI t)), (2, .int (nI u)), (3, .int day)] → W p (eL E) e (rmk 4 0 0) s m ([.ref x, .int (nI t), .int (nI u), .int day]).toArray below meth co H [] 0 0 (MQ below (PQ (some (.int (if smeS tr.1 ur.1 tr.2.2 ur.2.2 (bfC h0 h1 tr.1) day n_ then 1 else 0)))) ([.ref x, .int (nI t), .int (nI u), .int day]).toArray s 0 0 (fun _ => False)) (F0 m 9 ls []) := by
    intro q
    induction q with
    | zero =>
      intro i c ls hi hc9 hc hl
      have hi2 : i = n_ := by omega
      subst hi2
      refine lv_iload hx hb dX5_haveOneParty_9 (lv_at hl 0 rfl) ?_
      refine lv_aload_n hx hb dX5_haveOneParty_11 rfl (lv_at hl 3 rfl) ?_
      refine gf hx hb hts hown hE lkX5_41 hX.1 rfl dX5_haveOneParty_12 ?_
      refine lv_iload_n hx hb dX5_haveOneParty_15 rfl (lv_at hl 4 rfl) ?_
      refine aI hx hb hE hA13 rfl htl_ (by omega) ((hF_ 6 (by omega)).trans t6_) dX5_haveOneParty_16 ?_
      refine lv_icmp_ge (tgt := 83) hx hb dX5_haveOneParty_17 (by decide) (fun c1 => ?_) (fun c1 => ?_)
      rotate_left
      · exact absurd (nI_le (Nat.le_refl _) (by omega)) c1
      refine lv_iload hx hb dX5_haveOneParty_83 (lv_at hl 1 rfl) ?_
      cases cs : (smpS tr.1 ur.1 tr.2.2 ur.2.2 (bfC h0 h1 tr.1) day i).2 with
      | false =>
        refine lv_if_eq (tgt := 97) hx hb dX5_haveOneParty_85 (by decide) (fun c2 => ?_) (fun c2 => ?_)
        rotate_left
        · exact absurd (by decide) c2
        refine lv_iconst (v := 0) hx hb dX5_haveOneParty_97 (by decide) ?_
        exact pZ hx hb hr hlk hH (by simp [smeS, cs]) dX5_haveOneParty_98
      | true =>
        refine lv_if_eq (tgt := 97) hx hb dX5_haveOneParty_85 (by decide) (fun c2 => ?_) (fun c2 => ?_)
        · exact absurd c2 (by decide)
        refine lv_iload hx hb dX5_haveOneParty_88 (lv_at hl 2 rfl) ?_
        refine lv_if_le (tgt := 97) hx hb dX5_haveOneParty_90 (by decide) (fun c3 => ?_) (fun c3 => ?_)
        · have c0 : (smpS tr.1 ur.1 tr.2.2 ur.2.2 (bfC h0 h1 tr.1) day i).1 = false := by
            cases q9 : (smpS tr.1 ur.1 tr.2.2 ur.2.2 (bfC h0 h1 tr.1) day i).1 with
            | false => rfl
            | true => exact absurd c3 (nI_nle (hc.mpr q9) (by omega))
          refine lv_iconst (v := 0) hx hb dX5_haveOneParty_97 (by decide) ?_
          exact pZ hx hb hr hlk hH (by simp [smeS, c0]) dX5_haveOneParty_98
        · have c0 : 0 < c := by
            rcases Nat.eq_zero_or_pos c with q | q
            · subst q; exact absurd (by decide) c3
            · exact q
          refine lv_iconst (v := 1) hx hb dX5_haveOneParty_93 (by decide) ?_
          refine lv_goto (tgt := 98) hx hb dX5_haveOneParty_94 (by decide) ?_
          exact pZ hx hb hr hlk hH (by simp [smeS, cs, hc.mp c0]) dX5_haveOneParty_98
    | succ q ih =>
      intro i c ls hi hc9 hc hl
      refine lv_iload hx hb dX5_haveOneParty_9 (lv_at hl 0 rfl) ?_
      refine lv_aload_n hx hb dX5_haveOneParty_11 rfl (lv_at hl 3 rfl) ?_
      refine gf hx hb hts hown hE lkX5_41 hX.1 rfl dX5_haveOneParty_12 ?_
      refine lv_iload_n hx hb dX5_haveOneParty_15 rfl (lv_at hl 4 rfl) ?_
      refine aI hx hb hE hA13 rfl htl_ (by omega) ((hF_ 6 (by omega)).trans t6_) dX5_haveOneParty_16 ?_
      refine lv_icmp_ge (tgt := 83) hx hb dX5_haveOneParty_17 (by decide) (fun c1 => ?_) (fun c1 => ?_)
      · exact absurd c1 (nI_ge (by omega) (by omega))
      refine lv_aload_n hx hb dX5_haveOneParty_20 rfl (lv_at hl 3 rfl) ?_
      refine lv_iload_n hx hb dX5_haveOneParty_21 rfl (lv_at hl 4 rfl) ?_
      refine lv_iload hx hb dX5_haveOneParty_22 (lv_at hl 0 rfl) ?_
      refine pV hx hb hml hts hown hE kwX5_128 (c_beg E x sc ad ar h0 h1 fx ts B t tr i n_ H hX hI hV ht t6_ (by omega) (by omega)) hX.1 rfl (Nat.le_of_ble_eq_true rfl) rfl hl.1 rfl (Nat.le_of_ble_eq_true rfl) (Nat.le_refl _) (Nat.le_refl _) dX5_haveOneParty_24 ?_
      refine lv_iload_n hx hb dX5_haveOneParty_27 rfl (lv_at hl 6 rfl) ?_
      refine lv_icmp_lt (tgt := 77) hx hb dX5_haveOneParty_28 (by decide) (fun c2 => ?_) (fun c2 => ?_)
      · refine lv_iinc (v := nI (i + 1)) (lv' := [(6, .int (nI (i + 1))), (5, .int (if (smpS tr.1 ur.1 tr.2.2 ur.2.2 (bfC h0 h1 tr.1) day i).2 then 1 else 0)), (4, .int (nI c)), (0, .ref x), (1, .int (nI t)), (2, .int (nI u)), (3, .int day)]) hx hb dX5_haveOneParty_77 hl (k := 0) rfl (nI_1 i) (by decide) rfl (fun ls hl => ?_)
        refine lv_goto (tgt := 9) hx hb dX5_haveOneParty_80 (by decide) ?_
        refine ih (i + 1) c ls (by omega) (by omega) (by rw [smpS_no c2]; exact hc) ?_
        rw [smpS_no c2]
        exact (lv_sub hl [0, 1, 2, 3, 4, 5, 6] rfl)
      · refine lv_iinc (v := nI (c + 1)) (lv' := [(4, .int (nI (c + 1))), (6, .int (nI i)), (5, .int (if (smpS tr.1 ur.1 tr.2.2 ur.2.2 (bfC h0 h1 tr.1) day i).2 then 1 else 0)), (0, .ref x), (1, .int (nI t)), (2, .int (nI u)), (3, .int day)]) hx hb dX5_haveOneParty_31 hl (k := 2) rfl (nI_1 c) (by decide) rfl (fun ls hl => ?_)
        refine lv_iload hx hb dX5_haveOneParty_34 (lv_at hl 2 rfl) ?_
        have ey := smpS_yes (T := tr.1) (U := ur.1) (hs := tr.2.2) (hu := ur.2.2) (bf := bfC h0 h1 tr.1) (day := day) (i := i) c2
        cases cs : (smpS tr.1 ur.1 tr.2.2 ur.2.2 (bfC h0 h1 tr.1) day i).2 with
        | false =>
          refine lv_if_eq (tgt := 74) hx hb dX5_haveOneParty_36 (by decide) (fun c3 => ?_) (fun c3 => ?_)
          rotate_left
          · exact absurd (by decide) c3
          refine lv_iconst (v := 0) hx hb dX5_haveOneParty_74 (by decide) ?_
          refine lv_istore (lv' := [(5, .int 0), (4, .int (nI (c + 1))), (6, .int (nI i)), (0, .ref x), (1, .int (nI t)), (2, .int (nI u)), (3, .int day)]) hx hb dX5_haveOneParty_75 hl (by decide) rfl (fun ls hl => ?_)
          refine lv_iinc (v := nI (i + 1)) (lv' := [(6, .int (nI (i + 1))), (5, .int 0), (4, .int (nI (c + 1))), (0, .ref x), (1, .int (nI t)), (2, .int (nI u)), (3, .int day)]) hx hb dX5_haveOneParty_77 hl (k := 2) rfl (nI_1 i) (by decide) rfl (fun ls hl => ?_)
          refine lv_goto (tgt := 9) hx hb dX5_haveOneParty_80 (by decide) ?_
          refine ih (i + 1) (c + 1) ls (by omega) (by omega) (by rw [ey]; simp) ?_
          rw [ey, cs]
          rw [show ((true, false && decide (hldS tr.1 tr.2.2 (bfC h0 h1 tr.1 (i + 1)) = hldS ur.1 ur.2.2 (bfC h0 h1 tr.1 (i + 1)))) : Bool × Bool).2 = false from rfl]
          exact (lv_sub hl [0, 1, 2, 3, 4, 5, 6] rfl)
        | true =>
          refine lv_if_eq (tgt := 74) hx hb dX5_haveOneParty_36 (by decide) (fun c3 => ?_) (fun c3 => ?_)
          · exact absurd c3 (by decide)
          refine lv_aload_n hx hb dX5_haveOneParty_39 rfl (lv_at hl 3 rfl) ?_
          refine lv_iload_n hx hb dX5_haveOneParty_40 rfl (lv_at hl 4 rfl) ?_
          refine lv_aload_n hx hb dX5_haveOneParty_41 rfl (lv_at hl 3 rfl) ?_
          refine lv_iload_n hx hb dX5_haveOneParty_42 rfl (lv_at hl 4 rfl) ?_
          refine lv_iload hx hb dX5_haveOneParty_43 (lv_at hl 1 rfl) ?_
          refine lv_iconst (v := 1) hx hb dX5_haveOneParty_45 (by decide) ?_
          refine lv_iadd hx hb dX5_haveOneParty_46 ?_
          rw [show nI i + 1 = nI (i + 1) from nI_1 i]
          refine pV hx hb hml hts hown hE kwX5_128 (c_beg E x sc ad ar h0 h1 fx ts B t tr (i + 1) n_ H hX hI hV ht t6_ (by omega) (by omega)) hX.1 rfl (Nat.le_of_ble_eq_true rfl) rfl hl.1 rfl (Nat.le_of_ble_eq_true rfl) (Nat.le_refl _) (Nat.le_refl _) dX5_haveOneParty_47 ?_
          refine pV hx hb hml hts hown hE kwX5_125 (c_mparty E x sc ad ar h0 h1 fx ts B t tr (bfC h0 h1 tr.1 (i + 1)) H hX hI hV ht) hX.1 rfl (Nat.le_of_ble_eq_true rfl) rfl hl.1 rfl (Nat.le_of_ble_eq_true rfl) (Nat.le_refl _) (Nat.le_refl _) dX5_haveOneParty_50 ?_
          refine lv_aload_n hx hb dX5_haveOneParty_53 rfl (lv_at hl 3 rfl) ?_
          refine lv_iload_n hx hb dX5_haveOneParty_54 rfl (lv_at hl 5 rfl) ?_
          refine lv_aload_n hx hb dX5_haveOneParty_55 rfl (lv_at hl 3 rfl) ?_
          refine lv_iload_n hx hb dX5_haveOneParty_56 rfl (lv_at hl 4 rfl) ?_
          refine lv_iload hx hb dX5_haveOneParty_57 (lv_at hl 1 rfl) ?_
          refine lv_iconst (v := 1) hx hb dX5_haveOneParty_59 (by decide) ?_
          refine lv_iadd hx hb dX5_haveOneParty_60 ?_
          rw [show nI i + 1 = nI (i + 1) from nI_1 i]
          refine pV hx hb hml hts hown hE kwX5_128 (c_beg E x sc ad ar h0 h1 fx ts B t tr (i + 1) n_ H hX hI hV ht t6_ (by omega) (by omega)) hX.1 rfl (Nat.le_of_ble_eq_true rfl) rfl hl.1 rfl (Nat.le_of_ble_eq_true rfl) (Nat.le_refl _) (Nat.le_refl _) dX5_haveOneParty_61 ?_
          refine pV hx hb hml hts hown hE kwX5_125 (c_mparty E x sc ad ar h0 h1 fx ts B u ur (bfC h0 h1 tr.1 (i + 1)) H hX hI hV hu) hX.1 rfl (Nat.le_of_ble_eq_true rfl) rfl hl.1 rfl (Nat.le_of_ble_eq_true rfl) (Nat.le_refl _) (Nat.le_refl _) dX5_haveOneParty_64 ?_
          refine lv_icmp_ne (tgt := 74) hx hb dX5_haveOneParty_67 (by decide) (fun c4 => ?_) (fun c4 => ?_)
          · refine lv_iconst (v := 0) hx hb dX5_haveOneParty_74 (by decide) ?_
            refine lv_istore (lv' := [(5, .int 0), (4, .int (nI (c + 1))), (6, .int (nI i)), (0, .ref x), (1, .int (nI t)), (2, .int (nI u)), (3, .int day)]) hx hb dX5_haveOneParty_75 hl (by decide) rfl (fun ls hl => ?_)
            refine lv_iinc (v := nI (i + 1)) (lv' := [(6, .int (nI (i + 1))), (5, .int 0), (4, .int (nI (c + 1))), (0, .ref x), (1, .int (nI t)), (2, .int (nI u)), (3, .int day)]) hx hb dX5_haveOneParty_77 hl (k := 2) rfl (nI_1 i) (by decide) rfl (fun ls hl => ?_)
            refine lv_goto (tgt := 9) hx hb dX5_haveOneParty_80 (by decide) ?_
            refine ih (i + 1) (c + 1) ls (by omega) (by omega) (by rw [ey]; simp) ?_
            rw [ey, cs]
            rw [decide_eq_false c4]
            exact (lv_sub hl [0, 1, 2, 3, 4, 5, 6] rfl)
          · refine lv_iconst (v := 1) hx hb dX5_haveOneParty_70 (by decide) ?_
            refine lv_goto (tgt := 75) hx hb dX5_haveOneParty_71 (by decide) ?_
            refine lv_istore (lv' := [(5, .int 1), (4, .int (nI (c + 1))), (6, .int (nI i)), (0, .ref x), (1, .int (nI t)), (2, .int (nI u)), (3, .int day)]) hx hb dX5_haveOneParty_75 hl (by decide) rfl (fun ls hl => ?_)
            refine lv_iinc (v := nI (i + 1)) (lv' := [(6, .int (nI (i + 1))), (5, .int 1), (4, .int (nI (c + 1))), (0, .ref x), (1, .int (nI t)), (2, .int (nI u)), (3, .int day)]) hx hb dX5_haveOneParty_77 hl (k := 2) rfl (nI_1 i) (by decide) rfl (fun ls hl => ?_)
            refine lv_goto (tgt := 9) hx hb dX5_haveOneParty_80 (by decide) ?_
            refine ih (i + 1) (c + 1) ls (by omega) (by omega) (by rw [ey]; simp) ?_
            rw [ey, cs]
            rw [decide_eq_true c4]
            exact (lv_sub hl [0, 1, 2, 3, 4, 5, 6] rfl)
  exact loop n_ 0 0 ls (by omega) (Nat.le_refl _) (by simp [smpS]) (lv_sub hl [0, 1, 2, 3, 4, 5, 6] rfl)
