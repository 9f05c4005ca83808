theorem dSum_31 {bs : Dy} (h : dysIn bs) : dSum bs 3001 = dSum bs 3000 := by
  unfold dSum
  generalize (0 : Int32) = v
  induction bs generalizing v with
  | nil => rfl
  | cons x xs ih =>
    have ih := ih (fun y hy => h y (List.mem_cons_of_mem _ hy))
    obtain ⟨d, hd, e⟩ := h x List.mem_cons_self
    have h1 : x.1 ≤ 3001 := by rw [e]; exact (nI_leI (a := d) (b := 3001) (by omega) (by decide)).mpr (by omega)
    have h2 : x.1 ≤ 3000 := by rw [e]; exact (nI_leI (a := d) (b := 3000) (by omega) (by decide)).mpr (by omega)
    unfold smL
    rw [if_pos h1, if_pos h2]
    exact ih _
def dysI (T : Nat → Int32) (bf : Nat → Int32) (k : Nat) : Int32 := if T 8 = 0 then bf (k + 1) - bf k else T 5
theorem dysI_l (T : Nat → Int32) (bf : Nat → Int32) (k : Nat) : (dysI T bf k).toInt64 = dys T bf k := by
  unfold dysI dys
  by_cases c : T 8 = 0
  · rw [if_pos c, if_pos c]
  · rw [if_neg c, if_neg c]
set_option maxRecDepth 100000 in
set_option maxHeartbeats 4000000 in
/-- broken -/
theorem c_broken (E : ET) (x : Nat) (sc : Nat → Int32) (ad : Nat → Nat) (ar : Nat → Nat → Int32) (h0 h1 fx : Dy) (ts : List TR) (B : BK) (t : Nat) (up : Int32) (H : Heap) (hX : MX E x sc ad ar H) (hI : MI sc ar h0 h1 fx ts B) (hV : SV h0 h1 fx ts) (ht : t < 10) : PCon E yX5_broken cX5_broken 5 (some FieldType.int) 1 [.ref x, .int (nI t), .int up] H (some (.int (dSum (brk B t) up))) := by
  refine PCon.of (C := RX5) rfl (by decide +kernel) (Nat.le_of_ble_eq_true rfl) ?_
  intro p e s m below meth co ls hx hb hr hlk hml hown hts hE hH hl
  have hl : lv_has ls 5 [(0, .ref x), (1, .int (nI t)), (2, .int up)] := hl
  have hA18 : IA E 10000 (ar 18) (ad 18) H := hX.2 18 rfl
  have hA19 : IA E 10000 (ar 19) (ad 19) H := hX.2 19 rfl
  have hA20 : IA E 10000 (ar 20) (ad 20) H := hX.2 20 rfl
  have hB := hI.2.2.2.2.2.2.2.1
  have hR := hI.2.2.2.2.2.2.2.2.1
  have hQ := hI.2.2.2.2.2.2.2.2.2.2.1
  have htn := hV.2.2.2.2.2.2.2.1
  refine lv_iconst (v := 0) hx hb dX5_broken_0 (by decide) ?_
  refine lv_istore_n (lv' := [(3, .int 0), (0, .ref x), (1, .int (nI t)), (2, .int up)]) hx hb dX5_broken_1 rfl hl (by decide) rfl (fun ls hl => ?_)
  refine lv_iconst (v := 0) hx hb dX5_broken_2 (by decide) ?_
  refine lv_istore (lv' := [(4, .int 0), (3, .int 0), (0, .ref x), (1, .int (nI t)), (2, .int up)]) hx hb dX5_broken_3 hl (by decide) rfl (fun ls hl => ?_)
  have loop : ∀ (xs : BK) (i : Nat) (v : Int32) (ls : Array Slot), B.drop i = xs → i ≤ B.length → dSum (brk B t) up = smL up v (brk xs t) → lv_has ls 5 [(4, .int (nI i)), (3, .int v), (0, .ref x), (1, .int (nI t)), (2, .int up)] → W p (eL E) e (rmk 1 0 0) s m ([.ref x, .int (nI t), .int up]).toArray below meth co H [] 0 0 (MQ below (PQ (some (.int (dSum (brk B t) up)))) ([.ref x, .int (nI t), .int up]).toArray s 0 0 (fun _ => False)) (F0 m 5 ls []) := by
    intro xs
    induction xs with
    | nil =>
      intro i v ls hd hi he hl
      have hi2 := drop_n hd hi
      refine lv_iload hx hb dX5_broken_5 (lv_at hl 0 rfl) ?_
      refine lv_aload_n hx hb dX5_broken_7 rfl (lv_at hl 2 rfl) ?_
      refine gf hx hb hts hown hE lkX5_108 hX.1 rfl dX5_broken_8 ?_
      refine lv_icmp_ge (tgt := 56) hx hb dX5_broken_11 (by decide) (fun c => ?_) (fun c => ?_)
      rotate_left
      · exact absurd (by rw [hB.1]; exact nI_le (by omega) (by omega)) c
      refine lv_iload_n hx hb dX5_broken_56 rfl (lv_at hl 1 rfl) ?_
      exact pI hx hb hr hlk hH (by rw [he]; rfl) dX5_broken_57
    | cons y xs ih =>
      intro i v ls hd hi he hl
      obtain ⟨hy, hlt, hd2⟩ := drop_c hd
      have hr9 := hR i y hy
      obtain ⟨u, hu, eu⟩ := hQ y (List.mem_of_getElem? hy)
      rw [brk_mem] at he
      refine lv_iload hx hb dX5_broken_5 (lv_at hl 0 rfl) ?_
      refine lv_aload_n hx hb dX5_broken_7 rfl (lv_at hl 2 rfl) ?_
      refine gf hx hb hts hown hE lkX5_108 hX.1 rfl dX5_broken_8 ?_
      refine lv_icmp_ge (tgt := 56) hx hb dX5_broken_11 (by decide) (fun c => ?_) (fun c => ?_)
      · exact absurd c (by rw [hB.1]; exact nI_ge hlt (by omega))
      refine lv_iload_n hx hb dX5_broken_14 rfl (lv_at hl 1 rfl) ?_
      refine lv_aload_n hx hb dX5_broken_15 rfl (lv_at hl 2 rfl) ?_
      refine gf hx hb hts hown hE lkX5_53 hX.1 rfl dX5_broken_16 ?_
      refine lv_iload hx hb dX5_broken_19 (lv_at hl 0 rfl) ?_
      refine aI hx hb hE hA18 rfl (by omega) (by omega) hr9.1 dX5_broken_21 ?_
      refine lv_iload_n hx hb dX5_broken_22 rfl (lv_at hl 3 rfl) ?_
      refine lv_icmp_ne (tgt := 47) hx hb dX5_broken_23 (by decide) (fun c1 => ?_) (fun c1 => ?_)
      · refine lv_iconst (v := 0) hx hb dX5_broken_47 (by decide) ?_
        refine lv_iadd hx hb dX5_broken_48 ?_
        refine lv_istore_n (lv' := [(3, .int (v + 0)), (4, .int (nI i)), (0, .ref x), (1, .int (nI t)), (2, .int up)]) hx hb dX5_broken_49 rfl hl (by decide) rfl (fun ls hl => ?_)
        refine lv_iinc (v := nI (i + 1)) (lv' := [(4, .int (nI (i + 1))), (3, .int (v + 0)), (0, .ref x), (1, .int (nI t)), (2, .int up)]) hx hb dX5_broken_50 hl (k := 1) rfl (nI_1 i) (by decide) rfl (fun ls hl => ?_)
        refine lv_goto (tgt := 5) hx hb dX5_broken_53 (by decide) ?_
        exact ih (i + 1) (v + 0) ls hd2 (by omega) (he.trans (by rw [if_neg c1, Int32.add_zero])) (lv_sub hl [0, 1, 2, 3, 4] rfl)
      · refine lv_aload_n hx hb dX5_broken_26 rfl (lv_at hl 2 rfl) ?_
        refine gf hx hb hts hown hE lkX5_56 hX.1 rfl dX5_broken_27 ?_
        refine lv_iload hx hb dX5_broken_30 (lv_at hl 0 rfl) ?_
        refine aI hx hb hE hA19 rfl (by omega) (by omega) hr9.2.1 dX5_broken_32 ?_
        refine lv_iload_n hx hb dX5_broken_33 rfl (lv_at hl 4 rfl) ?_
        refine lv_icmp_gt (tgt := 47) hx hb dX5_broken_34 (by decide) (fun c2 => ?_) (fun c2 => ?_)
        · refine lv_iconst (v := 0) hx hb dX5_broken_47 (by decide) ?_
          refine lv_iadd hx hb dX5_broken_48 ?_
          refine lv_istore_n (lv' := [(3, .int (v + 0)), (4, .int (nI i)), (0, .ref x), (1, .int (nI t)), (2, .int up)]) hx hb dX5_broken_49 rfl hl (by decide) rfl (fun ls hl => ?_)
          refine lv_iinc (v := nI (i + 1)) (lv' := [(4, .int (nI (i + 1))), (3, .int (v + 0)), (0, .ref x), (1, .int (nI t)), (2, .int up)]) hx hb dX5_broken_50 hl (k := 1) rfl (nI_1 i) (by decide) rfl (fun ls hl => ?_)
          refine lv_goto (tgt := 5) hx hb dX5_broken_53 (by decide) ?_
          exact ih (i + 1) (v + 0) ls hd2 (by omega) (he.trans (by rw [if_pos c1, Int32.add_zero]; simp only [smL]; rw [if_neg (Int32.not_le.mpr c2)])) (lv_sub hl [0, 1, 2, 3, 4] rfl)
        · refine lv_aload_n hx hb dX5_broken_37 rfl (lv_at hl 2 rfl) ?_
          refine gf hx hb hts hown hE lkX5_59 hX.1 rfl dX5_broken_38 ?_
          refine lv_iload hx hb dX5_broken_41 (lv_at hl 0 rfl) ?_
          refine aI hx hb hE hA20 rfl (by omega) (by omega) hr9.2.2 dX5_broken_43 ?_
          refine lv_goto (tgt := 48) hx hb dX5_broken_44 (by decide) ?_
          refine lv_iadd hx hb dX5_broken_48 ?_
          refine lv_istore_n (lv' := [(3, .int (v + y.2.2)), (4, .int (nI i)), (0, .ref x), (1, .int (nI t)), (2, .int up)]) hx hb dX5_broken_49 rfl hl (by decide) rfl (fun ls hl => ?_)
          refine lv_iinc (v := nI (i + 1)) (lv' := [(4, .int (nI (i + 1))), (3, .int (v + y.2.2)), (0, .ref x), (1, .int (nI t)), (2, .int up)]) hx hb dX5_broken_50 hl (k := 1) rfl (nI_1 i) (by decide) rfl (fun ls hl => ?_)
          refine lv_goto (tgt := 5) hx hb dX5_broken_53 (by decide) ?_
          exact ih (i + 1) (v + y.2.2) ls hd2 (by omega) (he.trans (by rw [if_pos c1]; simp only [smL]; rw [if_pos (Int32.not_lt.mp c2)])) (lv_sub hl [0, 1, 2, 3, 4] rfl)
  exact loop B 0 0 ls rfl (Nat.zero_le _) rfl (lv_sub hl [0, 1, 2, 3, 4] rfl)

set_option maxRecDepth 100000 in
set_option maxHeartbeats 4000000 in
/-- rest -/
theorem c_mrest (E : ET) (x : Nat) (sc : Nat → Int32) (ad : Nat → Nat) (ar : Nat → Nat → Int32) (h0 h1 fx : Dy) (ts : List TR) (B : BK) (t : Nat) (tr : TR) (H : Heap) (hX : MX E x sc ad ar H) (hI : MI sc ar h0 h1 fx ts B) (hV : SV h0 h1 fx ts) (ht : ts[t]? = some tr) : PCon E yX5_rest cX5_rest 2 (some FieldType.int) 2 [.ref x, .int (nI t)] H (some (.int (rstS tr.1 tr.2.1))) := by
  refine PCon.of (C := RX5) rfl (by decide +kernel) (Nat.le_of_ble_eq_true rfl) ?_
  intro p e s m below meth co ls hx hb hr hlk hml hown hts hE hH hl
  have hl : lv_has ls 2 [(0, .ref x), (1, .int (nI t))] := hl
  have hA8 : IA E 10 (ar 8) (ad 8) H := hX.2 8 rfl
  have htl : t < 10 := by
    have := (List.getElem?_eq_some_iff.mp ht).1
    have := hV.2.2.2.2.2.2.2.1
    omega
  obtain ⟨pa, lo, f, le, n, v1, v2, v3, v4, v5, v6, v7, v8, t0, t1, t2, t4, t5, t6, t8, t9, tb, th⟩ := hV.2.2.2.2.2.2.2.2 tr (List.mem_of_getElem? ht)
  have hF : ∀ j, j < 10 → ar (7 + j) t = tr.1 j := hI.2.2.2.2.2.1 t tr ht
  have hb9 := hI.2.2.2.2.2.2.2.2.2.1 t tr ht
  refine lv_aload_n hx hb dX5_rest_0 rfl (lv_at hl 0 rfl) ?_
  refine gf hx hb hts hown hE lkX5_26 hX.1 rfl dX5_rest_1 ?_
  refine lv_iload_n hx hb dX5_rest_4 rfl (lv_at hl 1 rfl) ?_
  refine aI hx hb hE hA8 rfl htl (by omega) (hF 1 (by omega)) dX5_rest_5 ?_
  refine lv_aload_n hx hb dX5_rest_6 rfl (lv_at hl 0 rfl) ?_
  refine lv_iload_n hx hb dX5_rest_7 rfl (lv_at hl 1 rfl) ?_
  refine lv_sipush (v := 3001) hx hb dX5_rest_8 (by decide) ?_
  refine pV hx hb hml hts hown hE kwX5_111 (c_broken E x sc ad ar h0 h1 fx ts B t 3001 H hX hI hV htl) hX.1 rfl (Nat.le_of_ble_eq_true rfl) rfl hl.1 rfl (Nat.le_of_ble_eq_true rfl) (Nat.le_refl _) (Nat.le_refl _) dX5_rest_11 ?_
  refine lv_isub hx hb dX5_rest_14 ?_
  exact pI hx hb hr hlk hH (by rw [← hb9]; unfold rstS; rw [dSum_31 tb]) dX5_rest_15

set_option maxRecDepth 100000 in
set_option maxHeartbeats 4000000 in
/-- countBreaks -/
theorem c_mcount (E : ET) (x : Nat) (sc : Nat → Int32) (ad : Nat → Nat) (ar : Nat → Nat → Int32) (h0 h1 fx : Dy) (ts : List TR) (B : BK) (t : Nat) (H : Heap) (hX : MX E x sc ad ar H) (hI : MI sc ar h0 h1 fx ts B) (hV : SV h0 h1 fx ts) (ht : t < 10) : PCon E yX5_countBreaks cX5_countBreaks 4 (some FieldType.int) 1 [.ref x, .int (nI t)] H (some (.int (nI (brk B t).length))) := by
  refine PCon.of (C := RX5) rfl (by decide +kernel) (Nat.le_of_ble_eq_true rfl) ?_
  intro p e s m below meth co ls hx hb hr hlk hml hown hts hE hH hl
  have hl : lv_has ls 4 [(0, .ref x), (1, .int (nI t))] := hl
  have hA18 : IA E 10000 (ar 18) (ad 18) H := hX.2 18 rfl
  have hB := hI.2.2.2.2.2.2.2.1
  have hR := hI.2.2.2.2.2.2.2.2.1
  refine lv_iconst (v := 0) hx hb dX5_countBreaks_0 (by decide) ?_
  refine lv_istore_n (lv' := [(2, .int 0), (0, .ref x), (1, .int (nI t))]) hx hb dX5_countBreaks_1 rfl hl (by decide) rfl (fun ls hl => ?_)
  refine lv_iconst (v := 0) hx hb dX5_countBreaks_2 (by decide) ?_
  refine lv_istore_n (lv' := [(3, .int 0), (2, .int 0), (0, .ref x), (1, .int (nI t))]) hx hb dX5_countBreaks_3 rfl hl (by decide) rfl (fun ls hl => ?_)
  have loop : ∀ (xs : BK) (i v : Nat) (ls : Array Slot), B.drop i = xs → i ≤ B.length → (brk B t).length = v + (brk xs t).length → lv_has ls 4 [(3, .int (nI i)), (2, .int (nI v)), (0, .ref x), (1, .int (nI t))] → W p (eL E) e (rmk 1 0 0) s m ([.ref x, .int (nI t)]).toArray below meth co H [] 0 0 (MQ below (PQ (some (.int (nI (brk B t).length)))) ([.ref x, .int (nI t)]).toArray s 0 0 (fun _ => False)) (F0 m 4 ls []) := by
    intro xs
    induction xs with
    | nil =>
      intro i v ls hd hi he hl
      have hi2 := drop_n hd hi
      refine lv_iload_n hx hb dX5_countBreaks_4 rfl (lv_at hl 0 rfl) ?_
      refine lv_aload_n hx hb dX5_countBreaks_5 rfl (lv_at hl 2 rfl) ?_
      refine gf hx hb hts hown hE lkX5_108 hX.1 rfl dX5_countBreaks_6 ?_
      refine lv_icmp_ge (tgt := 36) hx hb dX5_countBreaks_9 (by decide) (fun c => ?_) (fun c => ?_)
      rotate_left
      · exact absurd (by rw [hB.1]; exact nI_le (by omega) (by omega)) c
      refine lv_iload_n hx hb dX5_countBreaks_36 rfl (lv_at hl 1 rfl) ?_
      exact pI hx hb hr hlk hH (by rw [he]; rfl) dX5_countBreaks_37
    | cons y xs ih =>
      intro i v ls hd hi he hl
      obtain ⟨hy, hlt, hd2⟩ := drop_c hd
      have hr9 := hR i y hy
      rw [brk_mem] at he
      refine lv_iload_n hx hb dX5_countBreaks_4 rfl (lv_at hl 0 rfl) ?_
      refine lv_aload_n hx hb dX5_countBreaks_5 rfl (lv_at hl 2 rfl) ?_
      refine gf hx hb hts hown hE lkX5_108 hX.1 rfl dX5_countBreaks_6 ?_
      refine lv_icmp_ge (tgt := 36) hx hb dX5_countBreaks_9 (by decide) (fun c => ?_) (fun c => ?_)
      · exact absurd c (by rw [hB.1]; exact nI_ge hlt (by omega))
      refine lv_iload_n hx hb dX5_countBreaks_12 rfl (lv_at hl 1 rfl) ?_
      refine lv_aload_n hx hb dX5_countBreaks_13 rfl (lv_at hl 2 rfl) ?_
      refine gf hx hb hts hown hE lkX5_53 hX.1 rfl dX5_countBreaks_14 ?_
      refine lv_iload_n hx hb dX5_countBreaks_17 rfl (lv_at hl 0 rfl) ?_
      refine aI hx hb hE hA18 rfl (by omega) (by omega) hr9.1 dX5_countBreaks_18 ?_
      refine lv_iload_n hx hb dX5_countBreaks_19 rfl (lv_at hl 3 rfl) ?_
      refine lv_icmp_ne (tgt := 27) hx hb dX5_countBreaks_20 (by decide) (fun c1 => ?_) (fun c1 => ?_)
      · refine lv_iconst (v := 0) hx hb dX5_countBreaks_27 (by decide) ?_
        refine lv_iadd hx hb dX5_countBreaks_28 ?_
        rw [show nI v + 0 = nI v from Int32.add_zero _]
        refine lv_istore_n (lv' := [(2, .int (nI v)), (3, .int (nI i)), (0, .ref x), (1, .int (nI t))]) hx hb dX5_countBreaks_29 rfl hl (by decide) rfl (fun ls hl => ?_)
        refine lv_iinc (v := nI (i + 1)) (lv' := [(3, .int (nI (i + 1))), (2, .int (nI v)), (0, .ref x), (1, .int (nI t))]) hx hb dX5_countBreaks_30 hl (k := 1) rfl (nI_1 i) (by decide) rfl (fun ls hl => ?_)
        refine lv_goto (tgt := 4) hx hb dX5_countBreaks_33 (by decide) ?_
        exact ih (i + 1) v ls hd2 (by omega) (by rw [he, if_neg c1]) (lv_sub hl [0, 1, 2, 3] rfl)
      · refine lv_iconst (v := 1) hx hb dX5_countBreaks_23 (by decide) ?_
        refine lv_goto (tgt := 28) hx hb dX5_countBreaks_24 (by decide) ?_
        refine lv_iadd hx hb dX5_countBreaks_28 ?_
        rw [show nI v + 1 = nI (v + 1) from nI_1 v]
        refine lv_istore_n (lv' := [(2, .int (nI (v + 1))), (3, .int (nI i)), (0, .ref x), (1, .int (nI t))]) hx hb dX5_countBreaks_29 rfl hl (by decide) rfl (fun ls hl => ?_)
        refine lv_iinc (v := nI (i + 1)) (lv' := [(3, .int (nI (i + 1))), (2, .int (nI (v + 1))), (0, .ref x), (1, .int (nI t))]) hx hb dX5_countBreaks_30 hl (k := 1) rfl (nI_1 i) (by decide) rfl (fun ls hl => ?_)
        refine lv_goto (tgt := 4) hx hb dX5_countBreaks_33 (by decide) ?_
        exact ih (i + 1) (v + 1) ls hd2 (by omega) (by rw [he, if_pos c1, List.length_cons]; omega) (lv_sub hl [0, 1, 2, 3] rfl)
  exact loop B 0 0 ls rfl (Nat.zero_le _) (by rw [Nat.zero_add]) (lv_sub hl [0, 1, 2, 3] rfl)

set_option maxRecDepth 100000 in
set_option maxHeartbeats 4000000 in
/-- party -/
theorem c_mparty (E : ET) (x : Nat) (sc : Nat → Int32) (ad : Nat → Nat) (ar : Nat → Nat → Int32) (h0 h1 fx : Dy) (ts : List TR) (B : BK) (t : Nat) (tr : TR) (day : Int32) (H : Heap) (hX : MX E x sc ad ar H) (hI : MI sc ar h0 h1 fx ts B) (hV : SV h0 h1 fx ts) (ht : ts[t]? = some tr) : PCon E yX5_party cX5_party 7 (some FieldType.int) 1 [.ref x, .int (nI t), .int day] H (some (.int (hldS tr.1 tr.2.2 day))) := by
  refine PCon.of (C := RX5) rfl (by decide +kernel) (Nat.le_of_ble_eq_true rfl) ?_
  intro p e s m below meth co ls hx hb hr hlk hml hown hts hE hH hl
  have hl : lv_has ls 7 [(0, .ref x), (1, .int (nI t)), (2, .int day)] := hl
  have hA7 : IA E 10 (ar 7) (ad 7) H := hX.2 7 rfl
  have hA21 : IA E 10 (ar 21) (ad 21) H := hX.2 21 rfl
  have hA22 : IA E 100 (ar 22) (ad 22) H := hX.2 22 rfl
  have hA23 : IA E 100 (ar 23) (ad 23) H := hX.2 23 rfl
  have htl : t < 10 := by
    have := (List.getElem?_eq_some_iff.mp ht).1
    have := hV.2.2.2.2.2.2.2.1
    omega
  obtain ⟨pa, lo, f, le, n, v1, v2, v3, v4, v5, v6, v7, v8, t0, t1, t2, t4, t5, t6, t8, t9, tb, th⟩ := hV.2.2.2.2.2.2.2.2 tr (List.mem_of_getElem? ht)
  have hF : ∀ j, j < 10 → ar (7 + j) t = tr.1 j := hI.2.2.2.2.2.1 t tr ht
  obtain ⟨hhm, hhk⟩ := hI.2.2.2.2.2.2.2.2.2.2.2 t tr ht
  refine lv_aload_n hx hb dX5_party_0 rfl (lv_at hl 0 rfl) ?_
  refine gf hx hb hts hown hE lkX5_23 hX.1 rfl dX5_party_1 ?_
  refine lv_iload_n hx hb dX5_party_4 rfl (lv_at hl 1 rfl) ?_
  refine aI hx hb hE hA7 rfl htl (by omega) (hF 0 (by omega)) dX5_party_5 ?_
  refine lv_istore_n (lv' := [(3, .int (tr.1 0)), (0, .ref x), (1, .int (nI t)), (2, .int day)]) hx hb dX5_party_6 rfl hl (by decide) rfl (fun ls hl => ?_)
  refine lv_iconst (v := (-1)) hx hb dX5_party_7 (by decide) ?_
  refine lv_istore (lv' := [(4, .int (-1)), (3, .int (tr.1 0)), (0, .ref x), (1, .int (nI t)), (2, .int day)]) hx hb dX5_party_8 hl (by decide) rfl (fun ls hl => ?_)
  refine lv_iconst (v := 0) hx hb dX5_party_10 (by decide) ?_
  refine lv_istore (lv' := [(5, .int 0), (4, .int (-1)), (3, .int (tr.1 0)), (0, .ref x), (1, .int (nI t)), (2, .int day)]) hx hb dX5_party_11 hl (by decide) rfl (fun ls hl => ?_)
  have loop : ∀ (xs : Dy) (i : Nat) (lt v : Int32) (ls : Array Slot), tr.2.2.drop i = xs → i ≤ tr.2.2.length → hldS tr.1 tr.2.2 day = lvL day lt v xs → lv_has ls 7 [(5, .int (nI i)), (4, .int lt), (3, .int v), (0, .ref x), (1, .int (nI t)), (2, .int day)] → W p (eL E) e (rmk 1 0 0) s m ([.ref x, .int (nI t), .int day]).toArray below meth co H [] 0 0 (MQ below (PQ (some (.int (hldS tr.1 tr.2.2 day)))) ([.ref x, .int (nI t), .int day]).toArray s 0 0 (fun _ => False)) (F0 m 13 ls []) := by
    intro xs
    induction xs with
    | nil =>
      intro i lt v ls hd hi he hl
      have hi2 := drop_n hd hi
      refine lv_iload hx hb dX5_party_13 (lv_at hl 0 rfl) ?_
      refine lv_aload_n hx hb dX5_party_15 rfl (lv_at hl 3 rfl) ?_
      refine gf hx hb hts hown hE lkX5_62 hX.1 rfl dX5_party_16 ?_
      refine lv_iload_n hx hb dX5_party_19 rfl (lv_at hl 4 rfl) ?_
      refine aI hx hb hE hA21 rfl htl (by omega) hhm dX5_party_20 ?_
      refine lv_icmp_ge (tgt := 74) hx hb dX5_party_21 (by decide) (fun c => ?_) (fun c => ?_)
      rotate_left
      · exact absurd (nI_le (by omega) (by omega)) c
      refine lv_iload_n hx hb dX5_party_74 rfl (lv_at hl 2 rfl) ?_
      exact pI hx hb hr hlk hH (by rw [he]; rfl) dX5_party_75
    | cons y xs ih =>
      intro i lt v ls hd hi he hl
      obtain ⟨hy, hlt, hd2⟩ := drop_c hd
      have hr9 := hhk i y hy
      have ei : (10 : Int32) * nI t + nI i = nI (10 * t + i) := by rw [show (10 : Int32) = nI 10 from rfl, pk_mul, nI_add]
      refine lv_iload hx hb dX5_party_13 (lv_at hl 0 rfl) ?_
      refine lv_aload_n hx hb dX5_party_15 rfl (lv_at hl 3 rfl) ?_
      refine gf hx hb hts hown hE lkX5_62 hX.1 rfl dX5_party_16 ?_
      refine lv_iload_n hx hb dX5_party_19 rfl (lv_at hl 4 rfl) ?_
      refine aI hx hb hE hA21 rfl htl (by omega) hhm dX5_party_20 ?_
      refine lv_icmp_ge (tgt := 74) hx hb dX5_party_21 (by decide) (fun c => ?_) (fun c => ?_)
      · exact absurd c (nI_ge hlt (by omega))
      refine lv_aload_n hx hb dX5_party_24 rfl (lv_at hl 3 rfl) ?_
      refine gf hx hb hts hown hE lkX5_65 hX.1 rfl dX5_party_25 ?_
      refine lv_bipush (v := 10) hx hb dX5_party_28 (by decide) ?_
      refine lv_iload_n hx hb dX5_party_30 rfl (lv_at hl 4 rfl) ?_
      refine lv_imul hx hb dX5_party_31 ?_
      refine lv_iload hx hb dX5_party_32 (lv_at hl 0 rfl) ?_
      refine lv_iadd hx hb dX5_party_34 ?_
      refine aI hx hb hE hA22 ei (by omega) (by omega) hr9.1 dX5_party_35 ?_
      refine lv_istore (lv' := [(6, .int y.1), (5, .int (nI i)), (4, .int lt), (3, .int v), (0, .ref x), (1, .int (nI t)), (2, .int day)]) hx hb dX5_party_36 hl (by decide) rfl (fun ls hl => ?_)
      refine lv_iload hx hb dX5_party_38 (lv_at hl 0 rfl) ?_
      refine lv_iload_n hx hb dX5_party_40 rfl (lv_at hl 6 rfl) ?_
      refine lv_icmp_gt (tgt := 68) hx hb dX5_party_41 (by decide) (fun c1 => ?_) (fun c1 => ?_)
      · refine lv_iinc (v := nI (i + 1)) (lv' := [(5, .int (nI (i + 1))), (6, .int y.1), (4, .int lt), (3, .int v), (0, .ref x), (1, .int (nI t)), (2, .int day)]) hx hb dX5_party_68 hl (k := 1) rfl (nI_1 i) (by decide) rfl (fun ls hl => ?_)
        refine lv_goto (tgt := 13) hx hb dX5_party_71 (by decide) ?_
        exact ih (i + 1) lt v ls hd2 (by omega) (he.trans (by simp only [lvL]; rw [if_neg (fun q => absurd q.1 (Int32.not_le.mpr c1))])) (lv_sub hl [0, 2, 3, 4, 5, 6] rfl)
      · refine lv_iload hx hb dX5_party_44 (lv_at hl 0 rfl) ?_
        refine lv_iload hx hb dX5_party_46 (lv_at hl 2 rfl) ?_
        refine lv_icmp_lt (tgt := 68) hx hb dX5_party_48 (by decide) (fun c2 => ?_) (fun c2 => ?_)
        · refine lv_iinc (v := nI (i + 1)) (lv' := [(5, .int (nI (i + 1))), (6, .int y.1), (4, .int lt), (3, .int v), (0, .ref x), (1, .int (nI t)), (2, .int day)]) hx hb dX5_party_68 hl (k := 1) rfl (nI_1 i) (by decide) rfl (fun ls hl => ?_)
          refine lv_goto (tgt := 13) hx hb dX5_party_71 (by decide) ?_
          exact ih (i + 1) lt v ls hd2 (by omega) (he.trans (by simp only [lvL]; rw [if_neg (fun q => absurd q.2 (Int32.not_le.mpr c2))])) (lv_sub hl [0, 2, 3, 4, 5, 6] rfl)
        · refine lv_aload_n hx hb dX5_party_51 rfl (lv_at hl 4 rfl) ?_
          refine gf hx hb hts hown hE lkX5_68 hX.1 rfl dX5_party_52 ?_
          refine lv_bipush (v := 10) hx hb dX5_party_55 (by decide) ?_
          refine lv_iload_n hx hb dX5_party_57 rfl (lv_at hl 5 rfl) ?_
          refine lv_imul hx hb dX5_party_58 ?_
          refine lv_iload hx hb dX5_party_59 (lv_at hl 1 rfl) ?_
          refine lv_iadd hx hb dX5_party_61 ?_
          refine aI hx hb hE hA23 ei (by omega) (by omega) hr9.2 dX5_party_62 ?_
          refine lv_istore_n (lv' := [(3, .int y.2), (6, .int y.1), (5, .int (nI i)), (4, .int lt), (0, .ref x), (1, .int (nI t)), (2, .int day)]) hx hb dX5_party_63 rfl hl (by decide) rfl (fun ls hl => ?_)
          refine lv_iload hx hb dX5_party_64 (lv_at hl 1 rfl) ?_
          refine lv_istore (lv' := [(4, .int y.1), (3, .int y.2), (6, .int y.1), (5, .int (nI i)), (0, .ref x), (1, .int (nI t)), (2, .int day)]) hx hb dX5_party_66 hl (by decide) rfl (fun ls hl => ?_)
          refine lv_iinc (v := nI (i + 1)) (lv' := [(5, .int (nI (i + 1))), (4, .int y.1), (3, .int y.2), (6, .int y.1), (0, .ref x), (1, .int (nI t)), (2, .int day)]) hx hb dX5_party_68 hl (k := 3) rfl (nI_1 i) (by decide) rfl (fun ls hl => ?_)
          refine lv_goto (tgt := 13) hx hb dX5_party_71 (by decide) ?_
          exact ih (i + 1) y.1 y.2 ls hd2 (by omega) (he.trans (by simp only [lvL]; rw [if_pos ⟨Int32.not_lt.mp c1, Int32.not_lt.mp c2⟩])) (lv_sub hl [0, 1, 2, 4, 5, 6] rfl)
  exact loop tr.2.2 0 (-1) (tr.1 0) ls rfl (Nat.zero_le _) rfl (lv_sub hl [0, 1, 2, 3, 4, 5] rfl)

set_option maxRecDepth 100000 in
set_option maxHeartbeats 4000000 in
/-- begins -/
theorem c_beg (E : ET) (x : Nat) (sc : Nat → Int32) (ad : Nat → Nat) (ar : Nat → Nat → Int32) (h0 h1 fx : Dy) (ts : List TR) (B : BK) (t : Nat) (tr : TR) (k n : Nat) (H : Heap) (hX : MX E x sc ad ar H) (hI : MI sc ar h0 h1 fx ts B) (hV : SV h0 h1 fx ts) (ht : ts[t]? = some tr) (hn : tr.1 6 = nI n) (hnp : n ≤ 10) (hk : k ≤ n) : PCon E yX5_begins cX5_begins 3 (some FieldType.int) 3 [.ref x, .int (nI t), .int (nI k)] H (some (.int (bfC h0 h1 tr.1 k))) := by
  refine PCon.of (C := RX5) rfl (by decide +kernel) (Nat.le_of_ble_eq_true rfl) ?_
  intro p e s m below meth co ls hx hb hr hlk hml hown hts hE hH hl
  have hl : lv_has ls 3 [(0, .ref x), (1, .int (nI t)), (2, .int (nI k))] := hl
  have hA11 : IA E 10 (ar 11) (ad 11) H := hX.2 11 rfl
  have hA12 : IA E 10 (ar 12) (ad 12) H := hX.2 12 rfl
  have hn0 := hn
  have htl_ : t < 10 := by
    have := (List.getElem?_eq_some_iff.mp ht).1
    have := hV.2.2.2.2.2.2.2.1
    omega
  obtain ⟨pa_, lo_, f_, le_, n_, v1_, v2_, v3_, v4_, v5_, v6_, v7_, v8_, t0_, t1_, t2_, t4_, t5_, t6_, t8_, t9_, tb_, th_⟩ := hV.2.2.2.2.2.2.2.2 tr (List.mem_of_getElem? ht)
  have hF_ : ∀ j, j < 10 → ar (7 + j) t = tr.1 j := hI.2.2.2.2.2.1 t tr ht
  have ek : k * le_ ≤ 10 * 180 := Nat.mul_le_mul (by omega) (by omega)
  refine lv_aload_n hx hb dX5_begins_0 rfl (lv_at hl 0 rfl) ?_
  refine lv_aload_n hx hb dX5_begins_1 rfl (lv_at hl 0 rfl) ?_
  refine gf hx hb hts hown hE lkX5_35 hX.1 rfl dX5_begins_2 ?_
  refine lv_iload_n hx hb dX5_begins_5 rfl (lv_at hl 1 rfl) ?_
  refine aI hx hb hE hA11 rfl htl_ (by omega) ((hF_ 4 (by omega)).trans t4_) dX5_begins_6 ?_
  refine lv_iload_n hx hb dX5_begins_7 rfl (lv_at hl 2 rfl) ?_
  refine lv_aload_n hx hb dX5_begins_8 rfl (lv_at hl 0 rfl) ?_
  refine gf hx hb hts hown hE lkX5_38 hX.1 rfl dX5_begins_9 ?_
  refine lv_iload_n hx hb dX5_begins_12 rfl (lv_at hl 1 rfl) ?_
  refine aI hx hb hE hA12 rfl htl_ (by omega) ((hF_ 5 (by omega)).trans t5_) dX5_begins_13 ?_
  refine lv_imul hx hb dX5_begins_14 ?_
  refine lv_iadd hx hb dX5_begins_15 ?_
  rw [show nI f_ + nI k * nI le_ = nI (f_ + k * le_) by rw [pk_mul, nI_add]]
  refine pV hx hb hml hts hown hE kwX5_92 (c_rolled E x sc ad ar h0 h1 fx ts B (f_ + k * le_) H hX hI hV (by omega)) hX.1 rfl (Nat.le_of_ble_eq_true rfl) rfl hl.1 rfl (Nat.le_of_ble_eq_true rfl) (Nat.le_refl _) (Nat.le_refl _) dX5_begins_16 ?_
  exact pI hx hb hr hlk hH ((bfC_eq t4_ t5_ hn (by omega) (by omega) (by omega) hk).symm) dX5_begins_19

set_option maxRecDepth 100000 in
set_option maxHeartbeats 4000000 in
/-- days -/
theorem c_mdays (E : ET) (x : Nat) (sc : Nat → Int32) (ad : Nat → Nat) (ar : Nat → Nat → Int32) (h0 h1 fx : Dy) (ts : List TR) (B : BK) (t : Nat) (tr : TR) (k n : Nat) (H : Heap) (hX : MX E x sc ad ar H) (hI : MI sc ar h0 h1 fx ts B) (hV : SV h0 h1 fx ts) (ht : ts[t]? = some tr) (hn : tr.1 6 = nI n) (hnp : n ≤ 10) (hk : k < n) : PCon E yX5_days cX5_days 3 (some FieldType.int) 4 [.ref x, .int (nI t), .int (nI k)] H (some (.int (dysI tr.1 (bfC h0 h1 tr.1) k))) := by
  refine PCon.of (C := RX5) rfl (by decide +kernel) (Nat.le_of_ble_eq_true rfl) ?_
  intro p e s m below meth co ls hx hb hr hlk hml hown hts hE hH hl
  have hl : lv_has ls 3 [(0, .ref x), (1, .int (nI t)), (2, .int (nI k))] := hl
  have hA15 : IA E 10 (ar 15) (ad 15) H := hX.2 15 rfl
  have hA12 : IA E 10 (ar 12) (ad 12) H := hX.2 12 rfl
  have htl_ : t < 10 := by
    have := (List.getElem?_eq_some_iff.mp ht).1
    have := hV.2.2.2.2.2.2.2.1
    omega
  obtain ⟨pa_, lo_, f_, le_, n_, v1_, v2_, v3_, v4_, v5_, v6_, v7_, v8_, t0_, t1_, t2_, t4_, t5_, t6_, t8_, t9_, tb_, th_⟩ := hV.2.2.2.2.2.2.2.2 tr (List.mem_of_getElem? ht)
  have hF_ : ∀ j, j < 10 → ar (7 + j) t = tr.1 j := hI.2.2.2.2.2.1 t tr ht
  refine lv_aload_n hx hb dX5_days_0 rfl (lv_at hl 0 rfl) ?_
  refine gf hx hb hts hown hE lkX5_47 hX.1 rfl dX5_days_1 ?_
  refine lv_iload_n hx hb dX5_days_4 rfl (lv_at hl 1 rfl) ?_
  refine aI hx hb hE hA15 rfl htl_ (by omega) (hF_ 8 (by omega)) dX5_days_5 ?_
  refine lv_iconst (v := 1) hx hb dX5_days_6 (by decide) ?_
  refine lv_icmp_ne (tgt := 19) hx hb dX5_days_7 (by decide) (fun c => ?_) (fun c => ?_)
  · have c0 : tr.1 8 = 0 := t8_.resolve_right c
    refine lv_aload_n hx hb dX5_days_19 rfl (lv_at hl 0 rfl) ?_
    refine lv_iload_n hx hb dX5_days_20 rfl (lv_at hl 1 rfl) ?_
    refine lv_iload_n hx hb dX5_days_21 rfl (lv_at hl 2 rfl) ?_
    refine lv_iconst (v := 1) hx hb dX5_days_22 (by decide) ?_
    refine lv_iadd hx hb dX5_days_23 ?_
    rw [show nI k + 1 = nI (k + 1) from nI_1 k]
    refine pV hx hb hml hts hown hE kwX5_128 (c_beg E x sc ad ar h0 h1 fx ts B t tr (k + 1) n H hX hI hV ht hn hnp (by omega)) hX.1 rfl (Nat.le_of_ble_eq_true rfl) rfl hl.1 rfl (Nat.le_of_ble_eq_true rfl) (Nat.le_refl _) (Nat.le_refl _) dX5_days_24 ?_
    refine lv_aload_n hx hb dX5_days_27 rfl (lv_at hl 0 rfl) ?_
    refine lv_iload_n hx hb dX5_days_28 rfl (lv_at hl 1 rfl) ?_
    refine lv_iload_n hx hb dX5_days_29 rfl (lv_at hl 2 rfl) ?_
    refine pV hx hb hml hts hown hE kwX5_128 (c_beg E x sc ad ar h0 h1 fx ts B t tr k n H hX hI hV ht hn hnp (by omega)) hX.1 rfl (Nat.le_of_ble_eq_true rfl) rfl hl.1 rfl (Nat.le_of_ble_eq_true rfl) (Nat.le_refl _) (Nat.le_refl _) dX5_days_30 ?_
    refine lv_isub hx hb dX5_days_33 ?_
    exact pI hx hb hr hlk hH (by simp only [dysI, if_pos c0]) dX5_days_34
  · have c0 : ¬ tr.1 8 = 0 := by rw [c]; decide
    refine lv_aload_n hx hb dX5_days_10 rfl (lv_at hl 0 rfl) ?_
    refine gf hx hb hts hown hE lkX5_38 hX.1 rfl dX5_days_11 ?_
    refine lv_iload_n hx hb dX5_days_14 rfl (lv_at hl 1 rfl) ?_
    refine aI hx hb hE hA12 rfl htl_ (by omega) (hF_ 5 (by omega)) dX5_days_15 ?_
    refine lv_goto (tgt := 34) hx hb dX5_days_16 (by decide) ?_
    exact pI hx hb hr hlk hH (by simp only [dysI, if_neg c0]) dX5_days_34

set_option maxRecDepth 100000 in
set_option maxHeartbeats 4000000 in
/-- lotsOf -/
theorem c_mlots (E : ET) (x : Nat) (sc : Nat → Int32) (ad : Nat → Nat) (ar : Nat → Nat → Int32) (h0 h1 fx : Dy) (ts : List TR) (B : BK) (t : Nat) (tr : TR) (k n : Nat) (H : Heap) (hX : MX E x sc ad ar H) (hI : MI sc ar h0 h1 fx ts B) (hV : SV h0 h1 fx ts) (ht : ts[t]? = some tr) (hn : tr.1 6 = nI n) (hnp : n ≤ 10) (hk : k < n) : PCon E yX5_lotsOf cX5_lotsOf 3 (some FieldType.int) 4 [.ref x, .int (nI t), .int (nI k)] H (some (.int (lotS tr.1 tr.2.1 (bfC h0 h1 tr.1) k))) := by
  refine PCon.of (C := RX5) rfl (by decide +kernel) (Nat.le_of_ble_eq_true rfl) ?_
  intro p e s m below meth co ls hx hb hr hlk hml hown hts hE hH hl
  have hl : lv_has ls 3 [(0, .ref x), (1, .int (nI t)), (2, .int (nI k))] := hl
  have hA8 : IA E 10 (ar 8) (ad 8) H := hX.2 8 rfl
  have htl_ : t < 10 := by
    have := (List.getElem?_eq_some_iff.mp ht).1
    have := hV.2.2.2.2.2.2.2.1
    omega
  obtain ⟨pa_, lo_, f_, le_, n_, v1_, v2_, v3_, v4_, v5_, v6_, v7_, v8_, t0_, t1_, t2_, t4_, t5_, t6_, t8_, t9_, tb_, th_⟩ := hV.2.2.2.2.2.2.2.2 tr (List.mem_of_getElem? ht)
  have hF_ : ∀ j, j < 10 → ar (7 + j) t = tr.1 j := hI.2.2.2.2.2.1 t tr ht
  have hb9 := hI.2.2.2.2.2.2.2.2.2.1 t tr ht
  refine lv_aload_n hx hb dX5_lotsOf_0 rfl (lv_at hl 0 rfl) ?_
  refine gf hx hb hts hown hE lkX5_26 hX.1 rfl dX5_lotsOf_1 ?_
  refine lv_iload_n hx hb dX5_lotsOf_4 rfl (lv_at hl 1 rfl) ?_
  refine aI hx hb hE hA8 rfl htl_ (by omega) (hF_ 1 (by omega)) dX5_lotsOf_5 ?_
  refine lv_aload_n hx hb dX5_lotsOf_6 rfl (lv_at hl 0 rfl) ?_
  refine lv_iload_n hx hb dX5_lotsOf_7 rfl (lv_at hl 1 rfl) ?_
  refine lv_aload_n hx hb dX5_lotsOf_8 rfl (lv_at hl 0 rfl) ?_
  refine lv_iload_n hx hb dX5_lotsOf_9 rfl (lv_at hl 1 rfl) ?_
  refine lv_iload_n hx hb dX5_lotsOf_10 rfl (lv_at hl 2 rfl) ?_
  refine pV hx hb hml hts hown hE kwX5_128 (c_beg E x sc ad ar h0 h1 fx ts B t tr k n H hX hI hV ht hn hnp (by omega)) hX.1 rfl (Nat.le_of_ble_eq_true rfl) rfl hl.1 rfl (Nat.le_of_ble_eq_true rfl) (Nat.le_refl _) (Nat.le_refl _) dX5_lotsOf_11 ?_
  refine pV hx hb hml hts hown hE kwX5_111 (c_broken E x sc ad ar h0 h1 fx ts B t (bfC h0 h1 tr.1 k) H hX hI hV htl_) hX.1 rfl (Nat.le_of_ble_eq_true rfl) rfl hl.1 rfl (Nat.le_of_ble_eq_true rfl) (Nat.le_refl _) (Nat.le_refl _) dX5_lotsOf_14 ?_
  refine lv_isub hx hb dX5_lotsOf_17 ?_
  exact pI hx hb hr hlk hH (by rw [← hb9]; rfl) dX5_lotsOf_18

set_option maxRecDepth 100000 in
set_option maxHeartbeats 4000000 in
/-- floor -/
theorem c_floor (E : ET) (a : Int64) (H : Heap) : PCon E yX5_floor cX5_floor 6 (some FieldType.long) 1 [.long a, .long 3600000] H (some (.long (flo a))) := by
  refine PCon.of (C := RX5) rfl (by decide +kernel) (Nat.le_of_ble_eq_true rfl) ?_
  intro p e s m below meth co ls hx hb hr hlk hml hown hts hE hH hl
  have hl : lv_has ls 6 [(0, .long a), (2, .long 3600000)] := hl
  refine lv_lload_n hx hb dX5_floor_0 rfl (lv_at hl 0 rfl) ?_
  refine lv_lload_n hx hb dX5_floor_1 rfl (lv_at hl 1 rfl) ?_
  refine lv_ldiv hx hb dX5_floor_2 (by decide) ?_
  refine lv_lstore (lv' := [(4, .long (a / 3600000)), (0, .long a), (2, .long 3600000)]) hx hb dX5_floor_3 hl (by decide) rfl (fun ls hl => ?_)
  refine lv_lload hx hb dX5_floor_5 (lv_at hl 0 rfl) ?_
  refine lv_lload_n hx hb dX5_floor_7 rfl (lv_at hl 2 rfl) ?_
  refine lv_lmul hx hb dX5_floor_8 ?_
  refine lv_lload_n hx hb dX5_floor_9 rfl (lv_at hl 1 rfl) ?_
  refine W.lcmp hx hb dX5_floor_10 ?_
  refine lv_if_le (tgt := 21) hx hb dX5_floor_11 (by decide) (fun c => ?_) (fun c => ?_)
  · refine lv_lload hx hb dX5_floor_21 (lv_at hl 0 rfl) ?_
    exact pL hx hb hr hlk hH (by rw [flo, if_neg (fun q => absurd q (Int64.not_lt.mpr ((lg_cmp_le _ _).mp c)))]) dX5_floor_23
  · refine lv_lload hx hb dX5_floor_14 (lv_at hl 0 rfl) ?_
    refine lv_lconst (v := 1) hx hb dX5_floor_16 (by decide) ?_
    refine lv_lsub hx hb dX5_floor_17 ?_
    refine lv_goto (tgt := 23) hx hb dX5_floor_18 (by decide) ?_
    exact pL hx hb hr hlk hH (by rw [flo, if_pos (Int64.not_le.mp (fun q => c ((lg_cmp_le _ _).mpr q)))]) dX5_floor_23
