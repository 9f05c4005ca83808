theorem ite_le {c : Prop} [Decidable c] {a b n : Nat} (ha : a ≤ n) (hb : b ≤ n) : (if c then a else b) ≤ n := by
  by_cases h : c
  · rw [if_pos h]; exact ha
  · rw [if_neg h]; exact hb
theorem cdHol_le (h0 h1 : Dy) (town d : Int32) : cdHol h0 h1 town d ≤ 3 := ite_le (ite_le (ite_le (by decide) (by decide)) (by decide)) (by decide)
theorem cdFix_le (fx : Dy) (d r : Int32) : cdFix fx d r ≤ 2 := ite_le (ite_le (by decide) (by decide)) (by decide)
theorem cdTrd_le (ts : List TR) (pa lo fi fs le pe : Int32) : cdTrd ts pa lo fi fs le pe ≤ 3 := ite_le (ite_le (ite_le (by decide) (by decide)) (by decide)) (by decide)
theorem cdSet_le (ts : List TR) (t sp dc co : Int32) : cdSet ts t sp dc co ≤ 3 := by
  unfold cdSet
  cases trd ts t with
  | none => exact (by decide : 1 ≤ 3)
  | some tr => exact ite_le (ite_le (by decide) (by decide)) (by decide)
theorem cdBrk_le (ts : List TR) (t d lo : Int32) : cdBrk ts t d lo ≤ 3 := by
  unfold cdBrk
  cases trd ts t with
  | none => exact (by decide : 1 ≤ 3)
  | some tr => exact ite_le (ite_le (by decide) (by decide)) (by decide)
theorem cdHnd_le (ts : List TR) (t d pa : Int32) : cdHnd ts t d pa ≤ 3 := by
  unfold cdHnd
  cases trd ts t with
  | none => exact (by decide : 1 ≤ 3)
  | some tr => exact ite_le (ite_le (ite_le (by decide) (by decide)) (by decide)) (by decide)
theorem cdPO_le (ts : List TR) (t d : Int32) : cdPO ts t d ≤ 2 := ite_le (by decide) (ite_le (by decide) (by decide))
theorem cdCash_le (pa d : Int32) : cdCash pa d ≤ 2 := ite_le (by decide) (ite_le (by decide) (by decide))
theorem cdPd_1 {ts : List TR} {t k : Int32} (h : (trd ts t).bind (fun tr => prd tr k) = none) : cdPd ts t k = 1 := by
  unfold cdPd
  cases c : trd ts t with
  | none => rfl
  | some tr =>
    rw [c] at h
    have h : prd tr k = none := h
    show (if (prd tr k).isSome then 0 else 1) = 1
    rw [h]
    rfl
theorem cdPd_0 {ts : List TR} {t k : Int32} {tr : TR} {j : Nat} (h : (trd ts t).bind (fun tr => (prd tr k).map (fun j => (tr, j))) = some (tr, j)) : cdPd ts t k = 0 ∧ trd ts t = some tr ∧ prd tr k = some j := by
  unfold cdPd
  cases c : trd ts t with
  | none => rw [c] at h; cases h
  | some ur =>
    rw [c] at h
    have h : (prd ur k).map (fun j => (ur, j)) = some (tr, j) := h
    cases c2 : prd ur k with
    | none => rw [c2] at h; cases h
    | some i =>
      rw [c2] at h
      cases h
      exact ⟨by simp [c2], rfl, c2⟩
theorem WOut.only {E : ET} {ow : Nat → Nat × Nat} {x o : Nat} {h0 h1 fx : Dy} {ts : List TR} {f : Nat → Int64} {H H1 : Heap} (hX : XOut E ow x h0 h1 fx ts H H1) (hJ : JA E 1 f o H1) (_hBF : eF E < eB E) (_h : eB E ≤ H1.size) : WOut E ow x o h0 h1 fx ts (fun _ => True) H H1 := by
  obtain ⟨ow', e1, e2, hR, hF⟩ := hX
  exact ⟨ow', f, e1, e2, hR, hJ, trivial, ⟨hF.1, fun q h hn => hF.2 q h (fun e => hn (Or.inl e))⟩⟩
set_option maxRecDepth 100000 in
set_option maxHeartbeats 4000000 in
/-- isOpen -/
theorem w_isOpen (E : ET) (ow : Nat → Nat × Nat) (x o : Nat) (h0 h1 fx : Dy) (ts : List TR) (f : Nat → Int64) (d : Int32) (H : Heap) (hX : XR E ow x h0 h1 fx ts H) (hV : SV h0 h1 fx ts) (hK : BL ts) (hJ : JA E 1 f o H) (ho : ow o = (4, 100)) (hgo : eB E ≤ o)  : WCon E yL_isOpen cL_isOpen 4 (some FieldType.int) [(0, 16, 19, 15)] 11 1 6 [.ref x, .int d, .ref o] H (fun v H' => v = some (.int (nI (cdDay d))) ∧ ((¬ cdDay d = 0 ∧ WOut E ow x o h0 h1 fx ts (fun _ => True) H H') ∨ (cdDay d = 0 ∧ WOut E ow x o h0 h1 fx ts (fun g => g 0 = (if opn h0 h1 d.toNatClampNeg then 1 else 0)) H H'))) := by
  refine WCon.of (C := RL) rfl (by decide +kernel) (Nat.le_of_ble_eq_true rfl) ?_
  intro p e s m below meth co ls hx hb hr hlk hml hown hts hxt hE hH hS hl
  have hl : lv_has ls 4 [(0, .ref x), (1, .int d), (2, .ref o)] := hl
  have hB : eB E ≤ s.heap.size := by rw [hH]; exact hE.2.1
  have hBF := hE.2.2.1
  have hgB : eB E ≤ H.size := hE.2.1
  have hol := plt hJ
  have hO := hX.x.choose_spec.choose_spec.choose_spec.choose_spec.1
  refine lv_aload_n hx hb dL_isOpen_0 rfl (lv_at hl 2 rfl) ?_
  refine lv_iconst (v := 0) hx hb dL_isOpen_1 (by decide) ?_
  refine lv_aload_n hx hb dL_isOpen_2 rfl (lv_at hl 0 rfl) ?_
  refine lv_iload_n hx hb dL_isOpen_3 rfl (lv_at hl 1 rfl) ?_
  refine xVh hx hb hml hts hown hB hE hS kwL_19 (c_xopen E ow x h0 h1 fx ts d H hX hV hK) hO rfl (Nat.le_of_ble_eq_true rfl) rfl hl.1 rfl (Nat.le_of_ble_eq_true rfl) (by omega) (by omega) dL_isOpen_4 (fun X ce q9 H1 L1 hbad hz1 hq1 hE hS hce hcv hcl => ?_) (fun v1 H1 L1 ho1 hz1 hE hS => ?_)
  · obtain ⟨hXn, hin⟩ := hbad
    subst hXn
    have hcd : cdDay d = 1 := by unfold cdDay; rw [hin]; rfl
    refine ctc (pre9 := []) (suf9 := []) hts hown hxt hE rfl (fun z hz => by simp at hz) (by decide) qw1_105 (by decide) (by decide) hce hcv hcl ?_
    refine lv_astore_n (lv' := [(3, .ref q9), (0, .ref x), (1, .int d), (2, .ref o)]) hx hb dL_isOpen_19 rfl hl (by decide) rfl (fun ls hl => ?_)
    refine lv_iconst (v := 1) hx hb dL_isOpen_20 (by decide) ?_
    exact vx_ret (cI hx hb hr hlk hB hS (by omega) (by omega) (⟨by rw [hcd]; rfl, Or.inl ⟨by rw [hcd]; decide, WOut.same hX hJ hz1 hq1 hBF hgB trivial⟩⟩) dL_isOpen_21)
  obtain ⟨⟨g1, hv1⟩, hh1⟩ := ho1
  subst hv1
  have hh1 := hh1.symm
  subst hh1
  dsimp only [Option.toList, List.nil_append, List.cons_append]
  have hcd : cdDay d = 0 := by unfold cdDay; rw [g1]; rfl
  cases co9 : opn h0 h1 d.toNatClampNeg with
  | true =>
    refine lv_if_eq (tgt := 14) hx hb dL_isOpen_7 (by decide) (fun c9 => ?_) (fun c9 => ?_)
    · exact absurd c9 (by decide)
    refine lv_lconst (v := 1) hx hb dL_isOpen_10 (by decide) ?_
    refine lv_goto (tgt := 15) hx hb dL_isOpen_11 (by decide) ?_
    refine asJ (j := 0) hx hb hE hS hJ hgo (rfl : (0 : Int32) = nI 0) (by decide) (by decide) dL_isOpen_15 (fun H2 L2 hJ2 hz2 hq2 hE hS => ?_)
    refine lv_goto (tgt := 22) hx hb dL_isOpen_16 (by decide) ?_
    refine lv_iconst (v := 0) hx hb dL_isOpen_22 (by decide) ?_
    exact vx_ret (cI hx hb hr hlk hB hS (by omega) (by omega) (⟨by rw [hcd]; rfl, Or.inr ⟨hcd, WOut.put (XOut.rf hX) hJ2 ho hol hgo hz2 hq2 hBF (by show vp_updL f 0 _ 0 = _; rw [pk_uLs]; rfl)⟩⟩) dL_isOpen_23)
  | false =>
    refine lv_if_eq (tgt := 14) hx hb dL_isOpen_7 (by decide) (fun c9 => ?_) (fun c9 => ?_)
    rotate_left
    · exact absurd (by decide) c9
    refine lv_lconst (v := 0) hx hb dL_isOpen_14 (by decide) ?_
    refine asJ (j := 0) hx hb hE hS hJ hgo (rfl : (0 : Int32) = nI 0) (by decide) (by decide) dL_isOpen_15 (fun H2 L2 hJ2 hz2 hq2 hE hS => ?_)
    refine lv_goto (tgt := 22) hx hb dL_isOpen_16 (by decide) ?_
    refine lv_iconst (v := 0) hx hb dL_isOpen_22 (by decide) ?_
    exact vx_ret (cI hx hb hr hlk hB hS (by omega) (by omega) (⟨by rw [hcd]; rfl, Or.inr ⟨hcd, WOut.put (XOut.rf hX) hJ2 ho hol hgo hz2 hq2 hBF (by show vp_updL f 0 _ 0 = _; rw [pk_uLs]; rfl)⟩⟩) dL_isOpen_23)

set_option maxRecDepth 100000 in
set_option maxHeartbeats 4000000 in
/-- roll -/
theorem w_roll (E : ET) (ow : Nat → Nat × Nat) (x o : Nat) (h0 h1 fx : Dy) (ts : List TR) (f : Nat → Int64) (d : Int32) (H : Heap) (hX : XR E ow x h0 h1 fx ts H) (hV : SV h0 h1 fx ts) (hK : BL ts) (hJ : JA E 1 f o H) (ho : ow o = (4, 100)) (hgo : eB E ≤ o)  : WCon E yL_roll cL_roll 4 (some FieldType.int) [(0, 9, 12, 15)] 11 1 6 [.ref x, .int d, .ref o] H (fun v H' => v = some (.int (nI (cdDay d))) ∧ ((¬ cdDay d = 0 ∧ WOut E ow x o h0 h1 fx ts (fun _ => True) H H') ∨ (cdDay d = 0 ∧ WOut E ow x o h0 h1 fx ts (fun g => g 0 = (nI (rol h0 h1 d.toNatClampNeg)).toInt64) H H'))) := by
  refine WCon.of (C := RL) rfl (by decide +kernel) (Nat.le_of_ble_eq_true rfl) ?_
  intro p e s m below meth co ls hx hb hr hlk hml hown hts hxt hE hH hS hl
  have hl : lv_has ls 4 [(0, .ref x), (1, .int d), (2, .ref o)] := hl
  have hB : eB E ≤ s.heap.size := by rw [hH]; exact hE.2.1
  have hBF := hE.2.2.1
  have hgB : eB E ≤ H.size := hE.2.1
  have hol := plt hJ
  have hO := hX.x.choose_spec.choose_spec.choose_spec.choose_spec.1
  refine lv_aload_n hx hb dL_roll_0 rfl (lv_at hl 2 rfl) ?_
  refine lv_iconst (v := 0) hx hb dL_roll_1 (by decide) ?_
  refine lv_aload_n hx hb dL_roll_2 rfl (lv_at hl 0 rfl) ?_
  refine lv_iload_n hx hb dL_roll_3 rfl (lv_at hl 1 rfl) ?_
  refine xVh hx hb hml hts hown hB hE hS kwL_23 (c_xroll E ow x h0 h1 fx ts d H hX hV hK) hO rfl (Nat.le_of_ble_eq_true rfl) rfl hl.1 rfl (Nat.le_of_ble_eq_true rfl) (by omega) (by omega) dL_roll_4 (fun X ce q9 H1 L1 hbad hz1 hq1 hE hS hce hcv hcl => ?_) (fun v1 H1 L1 ho1 hz1 hE hS => ?_)
  · obtain ⟨hXn, hin⟩ := hbad
    subst hXn
    have hcd : cdDay d = 1 := by unfold cdDay; rw [hin]; rfl
    refine ctc (pre9 := []) (suf9 := []) hts hown hxt hE rfl (fun z hz => by simp at hz) (by decide) qw1_105 (by decide) (by decide) hce hcv hcl ?_
    refine lv_astore_n (lv' := [(3, .ref q9), (0, .ref x), (1, .int d), (2, .ref o)]) hx hb dL_roll_12 rfl hl (by decide) rfl (fun ls hl => ?_)
    refine lv_iconst (v := 1) hx hb dL_roll_13 (by decide) ?_
    exact vx_ret (cI hx hb hr hlk hB hS (by omega) (by omega) (⟨by rw [hcd]; rfl, Or.inl ⟨by rw [hcd]; decide, WOut.same hX hJ hz1 hq1 hBF hgB trivial⟩⟩) dL_roll_14)
  obtain ⟨⟨g1, hv1⟩, hh1⟩ := ho1
  subst hv1
  have hh1 := hh1.symm
  subst hh1
  dsimp only [Option.toList, List.nil_append, List.cons_append]
  have hcd : cdDay d = 0 := by unfold cdDay; rw [g1]; rfl
  refine lv_i2l hx hb dL_roll_7 rfl ?_
  refine asJ (j := 0) hx hb hE hS hJ hgo (rfl : (0 : Int32) = nI 0) (by decide) (by decide) dL_roll_8 (fun H2 L2 hJ2 hz2 hq2 hE hS => ?_)
  refine lv_goto (tgt := 15) hx hb dL_roll_9 (by decide) ?_
  refine lv_iconst (v := 0) hx hb dL_roll_15 (by decide) ?_
  exact vx_ret (cI hx hb hr hlk hB hS (by omega) (by omega) (⟨by rw [hcd]; rfl, Or.inr ⟨hcd, WOut.put (XOut.rf hX) hJ2 ho hol hgo hz2 hq2 hBF (by show vp_updL f 0 _ 0 = _; exact pk_uLs)⟩⟩) dL_roll_16)

set_option maxRecDepth 100000 in
set_option maxHeartbeats 4000000 in
/-- rateFor -/
theorem w_rateFor (E : ET) (ow : Nat → Nat × Nat) (x o : Nat) (h0 h1 fx : Dy) (ts : List TR) (f : Nat → Int64) (d : Int32) (H : Heap) (hX : XR E ow x h0 h1 fx ts H) (hV : SV h0 h1 fx ts) (hK : BL ts) (hJ : JA E 1 f o H) (ho : ow o = (4, 100)) (hgo : eB E ≤ o)  : WCon E yL_rateFor cL_rateFor 4 (some FieldType.int) [(0, 9, 12, 15)] 11 1 6 [.ref x, .int d, .ref o] H (fun v H' => v = some (.int (nI (cdDay d))) ∧ ((¬ cdDay d = 0 ∧ WOut E ow x o h0 h1 fx ts (fun _ => True) H H') ∨ (cdDay d = 0 ∧ WOut E ow x o h0 h1 fx ts (fun g => g 0 = (dLast fx d 0).toInt64) H H'))) := by
  refine WCon.of (C := RL) rfl (by decide +kernel) (Nat.le_of_ble_eq_true rfl) ?_
  intro p e s m below meth co ls hx hb hr hlk hml hown hts hxt hE hH hS hl
  have hl : lv_has ls 4 [(0, .ref x), (1, .int d), (2, .ref o)] := hl
  have hB : eB E ≤ s.heap.size := by rw [hH]; exact hE.2.1
  have hBF := hE.2.2.1
  have hgB : eB E ≤ H.size := hE.2.1
  have hol := plt hJ
  have hO := hX.x.choose_spec.choose_spec.choose_spec.choose_spec.1
  refine lv_aload_n hx hb dL_rateFor_0 rfl (lv_at hl 2 rfl) ?_
  refine lv_iconst (v := 0) hx hb dL_rateFor_1 (by decide) ?_
  refine lv_aload_n hx hb dL_rateFor_2 rfl (lv_at hl 0 rfl) ?_
  refine lv_iload_n hx hb dL_rateFor_3 rfl (lv_at hl 1 rfl) ?_
  refine xVh hx hb hml hts hown hB hE hS kwL_30 (c_xrate E ow x h0 h1 fx ts d H hX hV hK) hO rfl (Nat.le_of_ble_eq_true rfl) rfl hl.1 rfl (Nat.le_of_ble_eq_true rfl) (by omega) (by omega) dL_rateFor_4 (fun X ce q9 H1 L1 hbad hz1 hq1 hE hS hce hcv hcl => ?_) (fun v1 H1 L1 ho1 hz1 hE hS => ?_)
  · obtain ⟨hXn, hin⟩ := hbad
    subst hXn
    have hcd : cdDay d = 1 := by unfold cdDay; rw [hin]; rfl
    refine ctc (pre9 := []) (suf9 := []) hts hown hxt hE rfl (fun z hz => by simp at hz) (by decide) qw1_105 (by decide) (by decide) hce hcv hcl ?_
    refine lv_astore_n (lv' := [(3, .ref q9), (0, .ref x), (1, .int d), (2, .ref o)]) hx hb dL_rateFor_12 rfl hl (by decide) rfl (fun ls hl => ?_)
    refine lv_iconst (v := 1) hx hb dL_rateFor_13 (by decide) ?_
    exact vx_ret (cI hx hb hr hlk hB hS (by omega) (by omega) (⟨by rw [hcd]; rfl, Or.inl ⟨by rw [hcd]; decide, WOut.same hX hJ hz1 hq1 hBF hgB trivial⟩⟩) dL_rateFor_14)
  obtain ⟨⟨g1, hv1⟩, hh1⟩ := ho1
  subst hv1
  have hh1 := hh1.symm
  subst hh1
  dsimp only [Option.toList, List.nil_append, List.cons_append]
  have hcd : cdDay d = 0 := by unfold cdDay; rw [g1]; rfl
  refine lv_i2l hx hb dL_rateFor_7 rfl ?_
  refine asJ (j := 0) hx hb hE hS hJ hgo (rfl : (0 : Int32) = nI 0) (by decide) (by decide) dL_rateFor_8 (fun H2 L2 hJ2 hz2 hq2 hE hS => ?_)
  refine lv_goto (tgt := 15) hx hb dL_rateFor_9 (by decide) ?_
  refine lv_iconst (v := 0) hx hb dL_rateFor_15 (by decide) ?_
  exact vx_ret (cI hx hb hr hlk hB hS (by omega) (by omega) (⟨by rw [hcd]; rfl, Or.inr ⟨hcd, WOut.put (XOut.rf hX) hJ2 ho hol hgo hz2 hq2 hBF (by show vp_updL f 0 _ 0 = _; exact pk_uLs)⟩⟩) dL_rateFor_16)

set_option maxRecDepth 100000 in
set_option maxHeartbeats 4000000 in
/-- start -/
theorem w_start (E : ET) (ow : Nat → Nat × Nat) (x o : Nat) (h0 h1 fx : Dy) (ts : List TR) (f : Nat → Int64) (t k : Int32) (H : Heap) (hX : XR E ow x h0 h1 fx ts H) (hV : SV h0 h1 fx ts) (hK : BL ts) (hJ : JA E 1 f o H) (ho : ow o = (4, 100)) (hgo : eB E ≤ o)  : WCon E yL_start cL_start 5 (some FieldType.int) [(0, 10, 13, 13)] 11 2 12 [.ref x, .int t, .int k, .ref o] H (fun v H' => v = some (.int (nI (cdPd ts t k))) ∧ ((¬ cdPd ts t k = 0 ∧ WOut E ow x o h0 h1 fx ts (fun _ => True) H H') ∨ (cdPd ts t k = 0 ∧ WOut E ow x o h0 h1 fx ts (fun g => g 0 = (((trd ts t).bind (fun tr => (prd tr k).map (fun j => bfC h0 h1 tr.1 j))).getD 0).toInt64) H H'))) := by
  refine WCon.of (C := RL) rfl (by decide +kernel) (Nat.le_of_ble_eq_true rfl) ?_
  intro p e s m below meth co ls hx hb hr hlk hml hown hts hxt hE hH hS hl
  have hl : lv_has ls 5 [(0, .ref x), (1, .int t), (2, .int k), (3, .ref o)] := hl
  have hB : eB E ≤ s.heap.size := by rw [hH]; exact hE.2.1
  have hBF := hE.2.2.1
  have hgB : eB E ≤ H.size := hE.2.1
  have hol := plt hJ
  have hO := hX.x.choose_spec.choose_spec.choose_spec.choose_spec.1
  refine lv_aload_n hx hb dL_start_0 rfl (lv_at hl 3 rfl) ?_
  refine lv_iconst (v := 0) hx hb dL_start_1 (by decide) ?_
  refine lv_aload_n hx hb dL_start_2 rfl (lv_at hl 0 rfl) ?_
  refine lv_iload_n hx hb dL_start_3 rfl (lv_at hl 1 rfl) ?_
  refine lv_iload_n hx hb dL_start_4 rfl (lv_at hl 2 rfl) ?_
  refine xVh hx hb hml hts hown hB hE hS kwL_51 (c_xstart E ow x h0 h1 fx ts t k H hX hV hK) hO rfl (Nat.le_of_ble_eq_true rfl) rfl hl.1 rfl (Nat.le_of_ble_eq_true rfl) (by omega) (by omega) dL_start_5 (fun X ce q9 H1 L1 hbad hz1 hq1 hE hS hce hcv hcl => ?_) (fun v1 H1 L1 ho1 hz1 hE hS => ?_)
  · obtain ⟨hXn, hin⟩ := hbad
    subst hXn
    have hcd := cdPd_1 hin
    refine ctc (pre9 := []) (suf9 := []) hts hown hxt hE rfl (fun z hz => by simp at hz) (by decide) qw1_104 (by decide) (by decide) hce hcv hcl ?_
    refine lv_astore (lv' := [(4, .ref q9), (0, .ref x), (1, .int t), (2, .int k), (3, .ref o)]) hx hb dL_start_13 hl (by decide) rfl (fun ls hl => ?_)
    refine lv_iconst (v := 1) hx hb dL_start_15 (by decide) ?_
    exact vx_ret (cI hx hb hr hlk hB hS (by omega) (by omega) (⟨by rw [hcd]; rfl, Or.inl ⟨by rw [hcd]; decide, WOut.same hX hJ hz1 hq1 hBF hgB trivial⟩⟩) dL_start_16)
  obtain ⟨⟨tr, j, ej, hv1⟩, hh1⟩ := ho1
  subst hv1
  have hh1 := hh1.symm
  subst hh1
  dsimp only [Option.toList, List.nil_append, List.cons_append]
  obtain ⟨hcd, etr, epr⟩ := cdPd_0 ej
  rw [show (bfC h0 h1 tr.1 j) = (((trd ts t).bind (fun tr => (prd tr k).map (fun j => bfC h0 h1 tr.1 j))).getD 0) by rw [etr]; simp [epr]]
  refine lv_i2l hx hb dL_start_8 rfl ?_
  refine asJ (j := 0) hx hb hE hS hJ hgo (rfl : (0 : Int32) = nI 0) (by decide) (by decide) dL_start_9 (fun H2 L2 hJ2 hz2 hq2 hE hS => ?_)
  refine lv_goto (tgt := 17) hx hb dL_start_10 (by decide) ?_
  refine lv_iconst (v := 0) hx hb dL_start_17 (by decide) ?_
  exact vx_ret (cI hx hb hr hlk hB hS (by omega) (by omega) (⟨by rw [hcd]; rfl, Or.inr ⟨hcd, WOut.put (XOut.rf hX) hJ2 ho hol hgo hz2 hq2 hBF (by show vp_updL f 0 _ 0 = _; exact pk_uLs)⟩⟩) dL_start_18)

set_option maxRecDepth 100000 in
set_option maxHeartbeats 4000000 in
/-- end -/
theorem w_end (E : ET) (ow : Nat → Nat × Nat) (x o : Nat) (h0 h1 fx : Dy) (ts : List TR) (f : Nat → Int64) (t k : Int32) (H : Heap) (hX : XR E ow x h0 h1 fx ts H) (hV : SV h0 h1 fx ts) (hK : BL ts) (hJ : JA E 1 f o H) (ho : ow o = (4, 100)) (hgo : eB E ≤ o)  : WCon E yL_end cL_end 5 (some FieldType.int) [(0, 10, 13, 13)] 11 2 12 [.ref x, .int t, .int k, .ref o] H (fun v H' => v = some (.int (nI (cdPd ts t k))) ∧ ((¬ cdPd ts t k = 0 ∧ WOut E ow x o h0 h1 fx ts (fun _ => True) H H') ∨ (cdPd ts t k = 0 ∧ WOut E ow x o h0 h1 fx ts (fun g => g 0 = (((trd ts t).bind (fun tr => (prd tr k).map (fun j => bfC h0 h1 tr.1 (j + 1)))).getD 0).toInt64) H H'))) := by
  refine WCon.of (C := RL) rfl (by decide +kernel) (Nat.le_of_ble_eq_true rfl) ?_
  intro p e s m below meth co ls hx hb hr hlk hml hown hts hxt hE hH hS hl
  have hl : lv_has ls 5 [(0, .ref x), (1, .int t), (2, .int k), (3, .ref o)] := hl
  have hB : eB E ≤ s.heap.size := by rw [hH]; exact hE.2.1
  have hBF := hE.2.2.1
  have hgB : eB E ≤ H.size := hE.2.1
  have hol := plt hJ
  have hO := hX.x.choose_spec.choose_spec.choose_spec.choose_spec.1
  refine lv_aload_n hx hb dL_end_0 rfl (lv_at hl 3 rfl) ?_
  refine lv_iconst (v := 0) hx hb dL_end_1 (by decide) ?_
  refine lv_aload_n hx hb dL_end_2 rfl (lv_at hl 0 rfl) ?_
  refine lv_iload_n hx hb dL_end_3 rfl (lv_at hl 1 rfl) ?_
  refine lv_iload_n hx hb dL_end_4 rfl (lv_at hl 2 rfl) ?_
  refine xVh hx hb hml hts hown hB hE hS kwL_54 (c_xend E ow x h0 h1 fx ts t k H hX hV hK) hO rfl (Nat.le_of_ble_eq_true rfl) rfl hl.1 rfl (Nat.le_of_ble_eq_true rfl) (by omega) (by omega) dL_end_5 (fun X ce q9 H1 L1 hbad hz1 hq1 hE hS hce hcv hcl => ?_) (fun v1 H1 L1 ho1 hz1 hE hS => ?_)
  · obtain ⟨hXn, hin⟩ := hbad
    subst hXn
    have hcd := cdPd_1 hin
    refine ctc (pre9 := []) (suf9 := []) hts hown hxt hE rfl (fun z hz => by simp at hz) (by decide) qw1_104 (by decide) (by decide) hce hcv hcl ?_
    refine lv_astore (lv' := [(4, .ref q9), (0, .ref x), (1, .int t), (2, .int k), (3, .ref o)]) hx hb dL_end_13 hl (by decide) rfl (fun ls hl => ?_)
    refine lv_iconst (v := 1) hx hb dL_end_15 (by decide) ?_
    exact vx_ret (cI hx hb hr hlk hB hS (by omega) (by omega) (⟨by rw [hcd]; rfl, Or.inl ⟨by rw [hcd]; decide, WOut.same hX hJ hz1 hq1 hBF hgB trivial⟩⟩) dL_end_16)
  obtain ⟨⟨tr, j, ej, hv1⟩, hh1⟩ := ho1
  subst hv1
  have hh1 := hh1.symm
  subst hh1
  dsimp only [Option.toList, List.nil_append, List.cons_append]
  obtain ⟨hcd, etr, epr⟩ := cdPd_0 ej
  rw [show (bfC h0 h1 tr.1 (j + 1)) = (((trd ts t).bind (fun tr => (prd tr k).map (fun j => bfC h0 h1 tr.1 (j + 1)))).getD 0) by rw [etr]; simp [epr]]
  refine lv_i2l hx hb dL_end_8 rfl ?_
  refine asJ (j := 0) hx hb hE hS hJ hgo (rfl : (0 : Int32) = nI 0) (by decide) (by decide) dL_end_9 (fun H2 L2 hJ2 hz2 hq2 hE hS => ?_)
  refine lv_goto (tgt := 17) hx hb dL_end_10 (by decide) ?_
  refine lv_iconst (v := 0) hx hb dL_end_17 (by decide) ?_
  exact vx_ret (cI hx hb hr hlk hB hS (by omega) (by omega) (⟨by rw [hcd]; rfl, Or.inr ⟨hcd, WOut.put (XOut.rf hX) hJ2 ho hol hgo hz2 hq2 hBF (by show vp_updL f 0 _ 0 = _; exact pk_uLs)⟩⟩) dL_end_18)

set_option maxRecDepth 100000 in
set_option maxHeartbeats 4000000 in
/-- lots -/
theorem w_lots (E : ET) (ow : Nat → Nat × Nat) (x o : Nat) (h0 h1 fx : Dy) (ts : List TR) (f : Nat → Int64) (t k : Int32) (H : Heap) (hX : XR E ow x h0 h1 fx ts H) (hV : SV h0 h1 fx ts) (hK : BL ts) (hJ : JA E 1 f o H) (ho : ow o = (4, 100)) (hgo : eB E ≤ o)  : WCon E yL_lots cL_lots 5 (some FieldType.int) [(0, 10, 13, 13)] 11 2 12 [.ref x, .int t, .int k, .ref o] H (fun v H' => v = some (.int (nI (cdPd ts t k))) ∧ ((¬ cdPd ts t k = 0 ∧ WOut E ow x o h0 h1 fx ts (fun _ => True) H H') ∨ (cdPd ts t k = 0 ∧ WOut E ow x o h0 h1 fx ts (fun g => g 0 = (((trd ts t).bind (fun tr => (prd tr k).map (fun j => lotS tr.1 tr.2.1 (bfC h0 h1 tr.1) j))).getD 0).toInt64) H H'))) := by
  refine WCon.of (C := RL) rfl (by decide +kernel) (Nat.le_of_ble_eq_true rfl) ?_
  intro p e s m below meth co ls hx hb hr hlk hml hown hts hxt hE hH hS hl
  have hl : lv_has ls 5 [(0, .ref x), (1, .int t), (2, .int k), (3, .ref o)] := hl
  have hB : eB E ≤ s.heap.size := by rw [hH]; exact hE.2.1
  have hBF := hE.2.2.1
  have hgB : eB E ≤ H.size := hE.2.1
  have hol := plt hJ
  have hO := hX.x.choose_spec.choose_spec.choose_spec.choose_spec.1
  refine lv_aload_n hx hb dL_lots_0 rfl (lv_at hl 3 rfl) ?_
  refine lv_iconst (v := 0) hx hb dL_lots_1 (by decide) ?_
  refine lv_aload_n hx hb dL_lots_2 rfl (lv_at hl 0 rfl) ?_
  refine lv_iload_n hx hb dL_lots_3 rfl (lv_at hl 1 rfl) ?_
  refine lv_iload_n hx hb dL_lots_4 rfl (lv_at hl 2 rfl) ?_
  refine xVh hx hb hml hts hown hB hE hS kwL_57 (c_xlots E ow x h0 h1 fx ts t k H hX hV hK) hO rfl (Nat.le_of_ble_eq_true rfl) rfl hl.1 rfl (Nat.le_of_ble_eq_true rfl) (by omega) (by omega) dL_lots_5 (fun X ce q9 H1 L1 hbad hz1 hq1 hE hS hce hcv hcl => ?_) (fun v1 H1 L1 ho1 hz1 hE hS => ?_)
  · obtain ⟨hXn, hin⟩ := hbad
    subst hXn
    have hcd := cdPd_1 hin
    refine ctc (pre9 := []) (suf9 := []) hts hown hxt hE rfl (fun z hz => by simp at hz) (by decide) qw1_104 (by decide) (by decide) hce hcv hcl ?_
    refine lv_astore (lv' := [(4, .ref q9), (0, .ref x), (1, .int t), (2, .int k), (3, .ref o)]) hx hb dL_lots_13 hl (by decide) rfl (fun ls hl => ?_)
    refine lv_iconst (v := 1) hx hb dL_lots_15 (by decide) ?_
    exact vx_ret (cI hx hb hr hlk hB hS (by omega) (by omega) (⟨by rw [hcd]; rfl, Or.inl ⟨by rw [hcd]; decide, WOut.same hX hJ hz1 hq1 hBF hgB trivial⟩⟩) dL_lots_16)
  obtain ⟨⟨tr, j, ej, hv1⟩, hh1⟩ := ho1
  subst hv1
  have hh1 := hh1.symm
  subst hh1
  dsimp only [Option.toList, List.nil_append, List.cons_append]
  obtain ⟨hcd, etr, epr⟩ := cdPd_0 ej
  rw [show (lotS tr.1 tr.2.1 (bfC h0 h1 tr.1) j) = (((trd ts t).bind (fun tr => (prd tr k).map (fun j => lotS tr.1 tr.2.1 (bfC h0 h1 tr.1) j))).getD 0) by rw [etr]; simp [epr]]
  refine lv_i2l hx hb dL_lots_8 rfl ?_
  refine asJ (j := 0) hx hb hE hS hJ hgo (rfl : (0 : Int32) = nI 0) (by decide) (by decide) dL_lots_9 (fun H2 L2 hJ2 hz2 hq2 hE hS => ?_)
  refine lv_goto (tgt := 17) hx hb dL_lots_10 (by decide) ?_
  refine lv_iconst (v := 0) hx hb dL_lots_17 (by decide) ?_
  exact vx_ret (cI hx hb hr hlk hB hS (by omega) (by omega) (⟨by rw [hcd]; rfl, Or.inr ⟨hcd, WOut.put (XOut.rf hX) hJ2 ho hol hgo hz2 hq2 hBF (by show vp_updL f 0 _ 0 = _; exact pk_uLs)⟩⟩) dL_lots_18)

set_option maxRecDepth 100000 in
set_option maxHeartbeats 4000000 in
/-- floating -/
theorem w_floating (E : ET) (ow : Nat → Nat × Nat) (x o : Nat) (h0 h1 fx : Dy) (ts : List TR) (f : Nat → Int64) (t k : Int32) (H : Heap) (hX : XR E ow x h0 h1 fx ts H) (hV : SV h0 h1 fx ts) (hK : BL ts) (hJ : JA E 1 f o H) (ho : ow o = (4, 100)) (hgo : eB E ≤ o)  : WCon E yL_floating cL_floating 5 (some FieldType.int) [(0, 9, 12, 13)] 11 2 12 [.ref x, .int t, .int k, .ref o] H (fun v H' => v = some (.int (nI (cdPd ts t k))) ∧ ((¬ cdPd ts t k = 0 ∧ WOut E ow x o h0 h1 fx ts (fun _ => True) H H') ∨ (cdPd ts t k = 0 ∧ WOut E ow x o h0 h1 fx ts (fun g => g 0 = (((trd ts t).bind (fun tr => (prd tr k).map (fun j => fltS tr.1 (bfC h0 h1 tr.1) fx j))).getD 0)) H H'))) := by
  refine WCon.of (C := RL) rfl (by decide +kernel) (Nat.le_of_ble_eq_true rfl) ?_
  intro p e s m below meth co ls hx hb hr hlk hml hown hts hxt hE hH hS hl
  have hl : lv_has ls 5 [(0, .ref x), (1, .int t), (2, .int k), (3, .ref o)] := hl
  have hB : eB E ≤ s.heap.size := by rw [hH]; exact hE.2.1
  have hBF := hE.2.2.1
  have hgB : eB E ≤ H.size := hE.2.1
  have hol := plt hJ
  have hO := hX.x.choose_spec.choose_spec.choose_spec.choose_spec.1
  refine lv_aload_n hx hb dL_floating_0 rfl (lv_at hl 3 rfl) ?_
  refine lv_iconst (v := 0) hx hb dL_floating_1 (by decide) ?_
  refine lv_aload_n hx hb dL_floating_2 rfl (lv_at hl 0 rfl) ?_
  refine lv_iload_n hx hb dL_floating_3 rfl (lv_at hl 1 rfl) ?_
  refine lv_iload_n hx hb dL_floating_4 rfl (lv_at hl 2 rfl) ?_
  refine xVh hx hb hml hts hown hB hE hS kwL_60 (c_xfloat E ow x h0 h1 fx ts t k H hX hV hK) hO rfl (Nat.le_of_ble_eq_true rfl) rfl hl.1 rfl (Nat.le_of_ble_eq_true rfl) (by omega) (by omega) dL_floating_5 (fun X ce q9 H1 L1 hbad hz1 hq1 hE hS hce hcv hcl => ?_) (fun v1 H1 L1 ho1 hz1 hE hS => ?_)
  · obtain ⟨hXn, hin⟩ := hbad
    subst hXn
    have hcd := cdPd_1 hin
    refine ctc (pre9 := []) (suf9 := []) hts hown hxt hE rfl (fun z hz => by simp at hz) (by decide) qw1_104 (by decide) (by decide) hce hcv hcl ?_
    refine lv_astore (lv' := [(4, .ref q9), (0, .ref x), (1, .int t), (2, .int k), (3, .ref o)]) hx hb dL_floating_12 hl (by decide) rfl (fun ls hl => ?_)
    refine lv_iconst (v := 1) hx hb dL_floating_14 (by decide) ?_
    exact vx_ret (cI hx hb hr hlk hB hS (by omega) (by omega) (⟨by rw [hcd]; rfl, Or.inl ⟨by rw [hcd]; decide, WOut.same hX hJ hz1 hq1 hBF hgB trivial⟩⟩) dL_floating_15)
  obtain ⟨⟨tr, j, ej, hv1⟩, hh1⟩ := ho1
  subst hv1
  have hh1 := hh1.symm
  subst hh1
  dsimp only [Option.toList, List.nil_append, List.cons_append]
  obtain ⟨hcd, etr, epr⟩ := cdPd_0 ej
  rw [show (fltS tr.1 (bfC h0 h1 tr.1) fx j) = (((trd ts t).bind (fun tr => (prd tr k).map (fun j => fltS tr.1 (bfC h0 h1 tr.1) fx j))).getD 0) by rw [etr]; simp [epr]]
  refine asJ (j := 0) hx hb hE hS hJ hgo (rfl : (0 : Int32) = nI 0) (by decide) (by decide) dL_floating_8 (fun H2 L2 hJ2 hz2 hq2 hE hS => ?_)
  refine lv_goto (tgt := 16) hx hb dL_floating_9 (by decide) ?_
  refine lv_iconst (v := 0) hx hb dL_floating_16 (by decide) ?_
  exact vx_ret (cI hx hb hr hlk hB hS (by omega) (by omega) (⟨by rw [hcd]; rfl, Or.inr ⟨hcd, WOut.put (XOut.rf hX) hJ2 ho hol hgo hz2 hq2 hBF (by show vp_updL f 0 _ 0 = _; exact pk_uLs)⟩⟩) dL_floating_17)

set_option maxRecDepth 100000 in
set_option maxHeartbeats 4000000 in
/-- flow -/
theorem w_flow (E : ET) (ow : Nat → Nat × Nat) (x o : Nat) (h0 h1 fx : Dy) (ts : List TR) (f : Nat → Int64) (t k : Int32) (H : Heap) (hX : XR E ow x h0 h1 fx ts H) (hV : SV h0 h1 fx ts) (hK : BL ts) (hJ : JA E 1 f o H) (ho : ow o = (4, 100)) (hgo : eB E ≤ o)  : WCon E yL_flow cL_flow 5 (some FieldType.int) [(0, 9, 12, 13)] 11 2 12 [.ref x, .int t, .int k, .ref o] H (fun v H' => v = some (.int (nI (cdPd ts t k))) ∧ ((¬ cdPd ts t k = 0 ∧ WOut E ow x o h0 h1 fx ts (fun _ => True) H H') ∨ (cdPd ts t k = 0 ∧ WOut E ow x o h0 h1 fx ts (fun g => g 0 = (((trd ts t).bind (fun tr => (prd tr k).map (fun j => flwS tr.1 tr.2.1 (bfC h0 h1 tr.1) fx j))).getD 0)) H H'))) := by
  refine WCon.of (C := RL) rfl (by decide +kernel) (Nat.le_of_ble_eq_true rfl) ?_
  intro p e s m below meth co ls hx hb hr hlk hml hown hts hxt hE hH hS hl
  have hl : lv_has ls 5 [(0, .ref x), (1, .int t), (2, .int k), (3, .ref o)] := hl
  have hB : eB E ≤ s.heap.size := by rw [hH]; exact hE.2.1
  have hBF := hE.2.2.1
  have hgB : eB E ≤ H.size := hE.2.1
  have hol := plt hJ
  have hO := hX.x.choose_spec.choose_spec.choose_spec.choose_spec.1
  refine lv_aload_n hx hb dL_flow_0 rfl (lv_at hl 3 rfl) ?_
  refine lv_iconst (v := 0) hx hb dL_flow_1 (by decide) ?_
  refine lv_aload_n hx hb dL_flow_2 rfl (lv_at hl 0 rfl) ?_
  refine lv_iload_n hx hb dL_flow_3 rfl (lv_at hl 1 rfl) ?_
  refine lv_iload_n hx hb dL_flow_4 rfl (lv_at hl 2 rfl) ?_
  refine xVh hx hb hml hts hown hB hE hS kwL_64 (c_xflow E ow x h0 h1 fx ts t k H hX hV hK) hO rfl (Nat.le_of_ble_eq_true rfl) rfl hl.1 rfl (Nat.le_of_ble_eq_true rfl) (by omega) (by omega) dL_flow_5 (fun X ce q9 H1 L1 hbad hz1 hq1 hE hS hce hcv hcl => ?_) (fun v1 H1 L1 ho1 hz1 hE hS => ?_)
  · obtain ⟨hXn, hin⟩ := hbad
    subst hXn
    have hcd := cdPd_1 hin
    refine ctc (pre9 := []) (suf9 := []) hts hown hxt hE rfl (fun z hz => by simp at hz) (by decide) qw1_104 (by decide) (by decide) hce hcv hcl ?_
    refine lv_astore (lv' := [(4, .ref q9), (0, .ref x), (1, .int t), (2, .int k), (3, .ref o)]) hx hb dL_flow_12 hl (by decide) rfl (fun ls hl => ?_)
    refine lv_iconst (v := 1) hx hb dL_flow_14 (by decide) ?_
    exact vx_ret (cI hx hb hr hlk hB hS (by omega) (by omega) (⟨by rw [hcd]; rfl, Or.inl ⟨by rw [hcd]; decide, WOut.same hX hJ hz1 hq1 hBF hgB trivial⟩⟩) dL_flow_15)
  obtain ⟨⟨tr, j, ej, hv1⟩, hh1⟩ := ho1
  subst hv1
  have hh1 := hh1.symm
  subst hh1
  dsimp only [Option.toList, List.nil_append, List.cons_append]
  obtain ⟨hcd, etr, epr⟩ := cdPd_0 ej
  rw [show (flwS tr.1 tr.2.1 (bfC h0 h1 tr.1) fx j) = (((trd ts t).bind (fun tr => (prd tr k).map (fun j => flwS tr.1 tr.2.1 (bfC h0 h1 tr.1) fx j))).getD 0) by rw [etr]; simp [epr]]
  refine asJ (j := 0) hx hb hE hS hJ hgo (rfl : (0 : Int32) = nI 0) (by decide) (by decide) dL_flow_8 (fun H2 L2 hJ2 hz2 hq2 hE hS => ?_)
  refine lv_goto (tgt := 16) hx hb dL_flow_9 (by decide) ?_
  refine lv_iconst (v := 0) hx hb dL_flow_16 (by decide) ?_
  exact vx_ret (cI hx hb hr hlk hB hS (by omega) (by omega) (⟨by rw [hcd]; rfl, Or.inr ⟨hcd, WOut.put (XOut.rf hX) hJ2 ho hol hgo hz2 hq2 hBF (by show vp_updL f 0 _ 0 = _; exact pk_uLs)⟩⟩) dL_flow_17)

set_option maxRecDepth 100000 in
set_option maxHeartbeats 4000000 in
/-- partyOn -/
theorem w_partyOn (E : ET) (ow : Nat → Nat × Nat) (x o : Nat) (h0 h1 fx : Dy) (ts : List TR) (f : Nat → Int64) (t d : Int32) (H : Heap) (hX : XR E ow x h0 h1 fx ts H) (hV : SV h0 h1 fx ts) (hK : BL ts) (hJ : JA E 1 f o H) (ho : ow o = (4, 100)) (hgo : eB E ≤ o)  : WCon E yL_partyOn cL_partyOn 5 (some FieldType.int) [(0, 10, 13, 13), (0, 10, 17, 15)] 11 2 12 [.ref x, .int t, .int d, .ref o] H (fun v H' => v = some (.int (nI (cdPO ts t d))) ∧ ((¬ cdPO ts t d = 0 ∧ WOut E ow x o h0 h1 fx ts (fun _ => True) H H') ∨ (cdPO ts t d = 0 ∧ WOut E ow x o h0 h1 fx ts (fun g => g 0 = ((trd ts t).elim 0 (fun tr => hldS tr.1 tr.2.2 d)).toInt64) H H'))) := by
  refine WCon.of (C := RL) rfl (by decide +kernel) (Nat.le_of_ble_eq_true rfl) ?_
  intro p e s m below meth co ls hx hb hr hlk hml hown hts hxt hE hH hS hl
  have hl : lv_has ls 5 [(0, .ref x), (1, .int t), (2, .int d), (3, .ref o)] := hl
  have hB : eB E ≤ s.heap.size := by rw [hH]; exact hE.2.1
  have hBF := hE.2.2.1
  have hgB : eB E ≤ H.size := hE.2.1
  have hol := plt hJ
  have hO := hX.x.choose_spec.choose_spec.choose_spec.choose_spec.1
  refine lv_aload_n hx hb dL_partyOn_0 rfl (lv_at hl 3 rfl) ?_
  refine lv_iconst (v := 0) hx hb dL_partyOn_1 (by decide) ?_
  refine lv_aload_n hx hb dL_partyOn_2 rfl (lv_at hl 0 rfl) ?_
  refine lv_iload_n hx hb dL_partyOn_3 rfl (lv_at hl 1 rfl) ?_
  refine lv_iload_n hx hb dL_partyOn_4 rfl (lv_at hl 2 rfl) ?_
  refine xVh hx hb hml hts hown hB hE hS kwL_67 (c_xparty E ow x h0 h1 fx ts t d H hX hV hK) hO rfl (Nat.le_of_ble_eq_true rfl) rfl hl.1 rfl (Nat.le_of_ble_eq_true rfl) (by omega) (by omega) dL_partyOn_5 (fun X ce q9 H1 L1 hbad hz1 hq1 hE hS hce hcv hcl => ?_) (fun v1 H1 L1 ho1 hz1 hE hS => ?_)
  · obtain ⟨hne, hXn⟩ := hbad
    have hle := cdPO_le ts t d
    rcases (show cdPO ts t d = 1 ∨ cdPO ts t d = 2 by omega) with hcd | hcd <;> rw [hcd] at hXn <;> subst hXn
    · refine ctc (pre9 := []) (suf9 := [(0, 10, 17, 15)]) hts hown hxt hE rfl (fun z hz => by simp at hz) (by decide) qw1_104 (by decide) (by decide) hce hcv hcl ?_
      refine lv_astore (lv' := [(4, .ref q9), (0, .ref x), (1, .int t), (2, .int d), (3, .ref o)]) hx hb dL_partyOn_13 hl (by decide) rfl (fun ls hl => ?_)
      refine lv_iconst (v := 1) hx hb dL_partyOn_15 (by decide) ?_
      exact vx_ret (cI hx hb hr hlk hB hS (by omega) (by omega) (⟨by rw [hcd]; rfl, Or.inl ⟨by rw [hcd]; decide, WOut.same hX hJ hz1 hq1 hBF hgB trivial⟩⟩) dL_partyOn_16)
    · refine ctc (pre9 := [(0, 10, 13, 13)]) (suf9 := []) hts hown hxt hE rfl (fun z hz => by (have hz := List.mem_singleton.mp hz; subst hz; exact ⟨by decide, xI, qw1_104, by decide⟩)) (by decide) qw1_105 (by decide) (by decide) hce hcv hcl ?_
      refine lv_astore (lv' := [(4, .ref q9), (0, .ref x), (1, .int t), (2, .int d), (3, .ref o)]) hx hb dL_partyOn_17 hl (by decide) rfl (fun ls hl => ?_)
      refine lv_iconst (v := 2) hx hb dL_partyOn_19 (by decide) ?_
      exact vx_ret (cI hx hb hr hlk hB hS (by omega) (by omega) (⟨by rw [hcd]; rfl, Or.inl ⟨by rw [hcd]; decide, WOut.same hX hJ hz1 hq1 hBF hgB trivial⟩⟩) dL_partyOn_20)
  obtain ⟨⟨tr, etr, hcd, hv1⟩, hh1⟩ := ho1
  subst hv1
  have hh1 := hh1.symm
  subst hh1
  dsimp only [Option.toList, List.nil_append, List.cons_append]
  rw [show hldS tr.1 tr.2.2 d = ((trd ts t).elim 0 (fun tr => hldS tr.1 tr.2.2 d)) by rw [etr]; rfl]
  refine lv_i2l hx hb dL_partyOn_8 rfl ?_
  refine asJ (j := 0) hx hb hE hS hJ hgo (rfl : (0 : Int32) = nI 0) (by decide) (by decide) dL_partyOn_9 (fun H2 L2 hJ2 hz2 hq2 hE hS => ?_)
  refine lv_goto (tgt := 21) hx hb dL_partyOn_10 (by decide) ?_
  refine lv_iconst (v := 0) hx hb dL_partyOn_21 (by decide) ?_
  exact vx_ret (cI hx hb hr hlk hB hS (by omega) (by omega) (⟨by rw [hcd]; rfl, Or.inr ⟨hcd, WOut.put (XOut.rf hX) hJ2 ho hol hgo hz2 hq2 hBF (by show vp_updL f 0 _ 0 = _; exact pk_uLs)⟩⟩) dL_partyOn_22)

set_option maxRecDepth 100000 in
set_option maxHeartbeats 4000000 in
/-- cash -/
theorem w_cash (E : ET) (ow : Nat → Nat × Nat) (x o : Nat) (h0 h1 fx : Dy) (ts : List TR) (f : Nat → Int64) (pa d : Int32) (H : Heap) (hX : XR E ow x h0 h1 fx ts H) (hV : SV h0 h1 fx ts) (hK : BL ts) (hJ : JA E 1 f o H) (ho : ow o = (4, 100)) (hgo : eB E ≤ o)  : WCon E yL_cash cL_cash 5 (some FieldType.int) [(0, 9, 12, 13), (0, 9, 16, 15)] 11 2 12 [.ref x, .int pa, .int d, .ref o] H (fun v H' => v = some (.int (nI (cdCash pa d))) ∧ ((¬ cdCash pa d = 0 ∧ WOut E ow x o h0 h1 fx ts (fun _ => True) H H') ∨ (cdCash pa d = 0 ∧ WOut E ow x o h0 h1 fx ts (fun g => g 0 = sumS h0 h1 fx pa d d 0 ts) H H'))) := by
  refine WCon.of (C := RL) rfl (by decide +kernel) (Nat.le_of_ble_eq_true rfl) ?_
  intro p e s m below meth co ls hx hb hr hlk hml hown hts hxt hE hH hS hl
  have hl : lv_has ls 5 [(0, .ref x), (1, .int pa), (2, .int d), (3, .ref o)] := hl
  have hB : eB E ≤ s.heap.size := by rw [hH]; exact hE.2.1
  have hBF := hE.2.2.1
  have hgB : eB E ≤ H.size := hE.2.1
  have hol := plt hJ
  have hO := hX.x.choose_spec.choose_spec.choose_spec.choose_spec.1
  refine lv_aload_n hx hb dL_cash_0 rfl (lv_at hl 3 rfl) ?_
  refine lv_iconst (v := 0) hx hb dL_cash_1 (by decide) ?_
  refine lv_aload_n hx hb dL_cash_2 rfl (lv_at hl 0 rfl) ?_
  refine lv_iload_n hx hb dL_cash_3 rfl (lv_at hl 1 rfl) ?_
  refine lv_iload_n hx hb dL_cash_4 rfl (lv_at hl 2 rfl) ?_
  refine xVh hx hb hml hts hown hB hE hS kwL_70 (c_xcash E ow x h0 h1 fx ts pa d H hX hV hK) hO rfl (Nat.le_of_ble_eq_true rfl) rfl hl.1 rfl (Nat.le_of_ble_eq_true rfl) (by omega) (by omega) dL_cash_5 (fun X ce q9 H1 L1 hbad hz1 hq1 hE hS hce hcv hcl => ?_) (fun v1 H1 L1 ho1 hz1 hE hS => ?_)
  · obtain ⟨hne, hXn⟩ := hbad
    have hle := cdCash_le pa d
    rcases (show cdCash pa d = 1 ∨ cdCash pa d = 2 by omega) with hcd | hcd <;> rw [hcd] at hXn <;> subst hXn
    · refine ctc (pre9 := []) (suf9 := [(0, 9, 16, 15)]) hts hown hxt hE rfl (fun z hz => by simp at hz) (by decide) qw1_104 (by decide) (by decide) hce hcv hcl ?_
      refine lv_astore (lv' := [(4, .ref q9), (0, .ref x), (1, .int pa), (2, .int d), (3, .ref o)]) hx hb dL_cash_12 hl (by decide) rfl (fun ls hl => ?_)
      refine lv_iconst (v := 1) hx hb dL_cash_14 (by decide) ?_
      exact vx_ret (cI hx hb hr hlk hB hS (by omega) (by omega) (⟨by rw [hcd]; rfl, Or.inl ⟨by rw [hcd]; decide, WOut.same hX hJ hz1 hq1 hBF hgB trivial⟩⟩) dL_cash_15)
    · refine ctc (pre9 := [(0, 9, 12, 13)]) (suf9 := []) hts hown hxt hE rfl (fun z hz => by (have hz := List.mem_singleton.mp hz; subst hz; exact ⟨by decide, xI, qw1_104, by decide⟩)) (by decide) qw1_105 (by decide) (by decide) hce hcv hcl ?_
      refine lv_astore (lv' := [(4, .ref q9), (0, .ref x), (1, .int pa), (2, .int d), (3, .ref o)]) hx hb dL_cash_16 hl (by decide) rfl (fun ls hl => ?_)
      refine lv_iconst (v := 2) hx hb dL_cash_18 (by decide) ?_
      exact vx_ret (cI hx hb hr hlk hB hS (by omega) (by omega) (⟨by rw [hcd]; rfl, Or.inl ⟨by rw [hcd]; decide, WOut.same hX hJ hz1 hq1 hBF hgB trivial⟩⟩) dL_cash_19)
  obtain ⟨⟨hcd, hv1⟩, hh1⟩ := ho1
  subst hv1
  have hh1 := hh1.symm
  subst hh1
  dsimp only [Option.toList, List.nil_append, List.cons_append]
  refine asJ (j := 0) hx hb hE hS hJ hgo (rfl : (0 : Int32) = nI 0) (by decide) (by decide) dL_cash_8 (fun H2 L2 hJ2 hz2 hq2 hE hS => ?_)
  refine lv_goto (tgt := 20) hx hb dL_cash_9 (by decide) ?_
  refine lv_iconst (v := 0) hx hb dL_cash_20 (by decide) ?_
  exact vx_ret (cI hx hb hr hlk hB hS (by omega) (by omega) (⟨by rw [hcd]; rfl, Or.inr ⟨hcd, WOut.put (XOut.rf hX) hJ2 ho hol hgo hz2 hq2 hBF (by show vp_updL f 0 _ 0 = _; exact pk_uLs)⟩⟩) dL_cash_21)

set_option maxRecDepth 100000 in
set_option maxHeartbeats 4000000 in
/-- cashOfDays -/
theorem w_cashOfDays (E : ET) (ow : Nat → Nat × Nat) (x o : Nat) (h0 h1 fx : Dy) (ts : List TR) (f : Nat → Int64) (pa d1 d2 : Int32) (H : Heap) (hX : XR E ow x h0 h1 fx ts H) (hV : SV h0 h1 fx ts) (hK : BL ts) (hJ : JA E 1 f o H) (ho : ow o = (4, 100)) (hgo : eB E ≤ o)  : WCon E yL_cashOfDays cL_cashOfDays 6 (some FieldType.int) [(0, 11, 14, 13), (0, 11, 18, 15)] 11 3 18 [.ref x, .int pa, .int d1, .int d2, .ref o] H (fun v H' => v = some (.int (nI (cdSpan pa d1 d2))) ∧ ((¬ cdSpan pa d1 d2 = 0 ∧ WOut E ow x o h0 h1 fx ts (fun _ => True) H H') ∨ (cdSpan pa d1 d2 = 0 ∧ WOut E ow x o h0 h1 fx ts (fun g => g 0 = sumS h0 h1 fx pa d1 d2 0 ts) H H'))) := by
  refine WCon.of (C := RL) rfl (by decide +kernel) (Nat.le_of_ble_eq_true rfl) ?_
  intro p e s m below meth co ls hx hb hr hlk hml hown hts hxt hE hH hS hl
  have hl : lv_has ls 6 [(0, .ref x), (1, .int pa), (2, .int d1), (3, .int d2), (4, .ref o)] := hl
  have hB : eB E ≤ s.heap.size := by rw [hH]; exact hE.2.1
  have hBF := hE.2.2.1
  have hgB : eB E ≤ H.size := hE.2.1
  have hol := plt hJ
  have hO := hX.x.choose_spec.choose_spec.choose_spec.choose_spec.1
  refine lv_aload hx hb dL_cashOfDays_0 (lv_at hl 4 rfl) ?_
  refine lv_iconst (v := 0) hx hb dL_cashOfDays_2 (by decide) ?_
  refine lv_aload_n hx hb dL_cashOfDays_3 rfl (lv_at hl 0 rfl) ?_
  refine lv_iload_n hx hb dL_cashOfDays_4 rfl (lv_at hl 1 rfl) ?_
  refine lv_iload_n hx hb dL_cashOfDays_5 rfl (lv_at hl 2 rfl) ?_
  refine lv_iload_n hx hb dL_cashOfDays_6 rfl (lv_at hl 3 rfl) ?_
  refine xVh hx hb hml hts hown hB hE hS kwL_73 (c_xdays E ow x h0 h1 fx ts pa d1 d2 H hX hV hK) hO rfl (Nat.le_of_ble_eq_true rfl) rfl hl.1 rfl (Nat.le_of_ble_eq_true rfl) (by omega) (by omega) dL_cashOfDays_7 (fun X ce q9 H1 L1 hbad hz1 hq1 hE hS hce hcv hcl => ?_) (fun v1 H1 L1 ho1 hz1 hE hS => ?_)
  · obtain ⟨hne, hXn⟩ := hbad
    have hle := cdSpan_le pa d1 d2
    rcases (show cdSpan pa d1 d2 = 1 ∨ cdSpan pa d1 d2 = 2 by omega) with hcd | hcd <;> rw [hcd] at hXn <;> subst hXn
    · refine ctc (pre9 := []) (suf9 := [(0, 11, 18, 15)]) hts hown hxt hE rfl (fun z hz => by simp at hz) (by decide) qw1_104 (by decide) (by decide) hce hcv hcl ?_
      refine lv_astore (lv' := [(5, .ref q9), (0, .ref x), (1, .int pa), (2, .int d1), (3, .int d2), (4, .ref o)]) hx hb dL_cashOfDays_14 hl (by decide) rfl (fun ls hl => ?_)
      refine lv_iconst (v := 1) hx hb dL_cashOfDays_16 (by decide) ?_
      exact vx_ret (cI hx hb hr hlk hB hS (by omega) (by omega) (⟨by rw [hcd]; rfl, Or.inl ⟨by rw [hcd]; decide, WOut.same hX hJ hz1 hq1 hBF hgB trivial⟩⟩) dL_cashOfDays_17)
    · refine ctc (pre9 := [(0, 11, 14, 13)]) (suf9 := []) hts hown hxt hE rfl (fun z hz => by (have hz := List.mem_singleton.mp hz; subst hz; exact ⟨by decide, xI, qw1_104, by decide⟩)) (by decide) qw1_105 (by decide) (by decide) hce hcv hcl ?_
      refine lv_astore (lv' := [(5, .ref q9), (0, .ref x), (1, .int pa), (2, .int d1), (3, .int d2), (4, .ref o)]) hx hb dL_cashOfDays_18 hl (by decide) rfl (fun ls hl => ?_)
      refine lv_iconst (v := 2) hx hb dL_cashOfDays_20 (by decide) ?_
      exact vx_ret (cI hx hb hr hlk hB hS (by omega) (by omega) (⟨by rw [hcd]; rfl, Or.inl ⟨by rw [hcd]; decide, WOut.same hX hJ hz1 hq1 hBF hgB trivial⟩⟩) dL_cashOfDays_21)
  obtain ⟨⟨hcd, hv1⟩, hh1⟩ := ho1
  subst hv1
  have hh1 := hh1.symm
  subst hh1
  dsimp only [Option.toList, List.nil_append, List.cons_append]
  refine asJ (j := 0) hx hb hE hS hJ hgo (rfl : (0 : Int32) = nI 0) (by decide) (by decide) dL_cashOfDays_10 (fun H2 L2 hJ2 hz2 hq2 hE hS => ?_)
  refine lv_goto (tgt := 22) hx hb dL_cashOfDays_11 (by decide) ?_
  refine lv_iconst (v := 0) hx hb dL_cashOfDays_22 (by decide) ?_
  exact vx_ret (cI hx hb hr hlk hB hS (by omega) (by omega) (⟨by rw [hcd]; rfl, Or.inr ⟨hcd, WOut.put (XOut.rf hX) hJ2 ho hol hgo hz2 hq2 hBF (by show vp_updL f 0 _ 0 = _; exact pk_uLs)⟩⟩) dL_cashOfDays_23)

set_option maxRecDepth 100000 in
set_option maxHeartbeats 4000000 in
/-- cashByTrades -/
theorem w_cashByTrades (E : ET) (ow : Nat → Nat × Nat) (x o : Nat) (h0 h1 fx : Dy) (ts : List TR) (f : Nat → Int64) (pa d1 d2 : Int32) (H : Heap) (hX : XR E ow x h0 h1 fx ts H) (hV : SV h0 h1 fx ts) (hK : BL ts) (hJ : JA E 1 f o H) (ho : ow o = (4, 100)) (hgo : eB E ≤ o)  : WCon E yL_cashByTrades cL_cashByTrades 6 (some FieldType.int) [(0, 11, 14, 13), (0, 11, 18, 15)] 11 3 18 [.ref x, .int pa, .int d1, .int d2, .ref o] H (fun v H' => v = some (.int (nI (cdSpan pa d1 d2))) ∧ ((¬ cdSpan pa d1 d2 = 0 ∧ WOut E ow x o h0 h1 fx ts (fun _ => True) H H') ∨ (cdSpan pa d1 d2 = 0 ∧ WOut E ow x o h0 h1 fx ts (fun g => g 0 = sumS h0 h1 fx pa d1 d2 0 ts) H H'))) := by
  refine WCon.of (C := RL) rfl (by decide +kernel) (Nat.le_of_ble_eq_true rfl) ?_
  intro p e s m below meth co ls hx hb hr hlk hml hown hts hxt hE hH hS hl
  have hl : lv_has ls 6 [(0, .ref x), (1, .int pa), (2, .int d1), (3, .int d2), (4, .ref o)] := hl
  have hB : eB E ≤ s.heap.size := by rw [hH]; exact hE.2.1
  have hBF := hE.2.2.1
  have hgB : eB E ≤ H.size := hE.2.1
  have hol := plt hJ
  have hO := hX.x.choose_spec.choose_spec.choose_spec.choose_spec.1
  refine lv_aload hx hb dL_cashByTrades_0 (lv_at hl 4 rfl) ?_
  refine lv_iconst (v := 0) hx hb dL_cashByTrades_2 (by decide) ?_
  refine lv_aload_n hx hb dL_cashByTrades_3 rfl (lv_at hl 0 rfl) ?_
  refine lv_iload_n hx hb dL_cashByTrades_4 rfl (lv_at hl 1 rfl) ?_
  refine lv_iload_n hx hb dL_cashByTrades_5 rfl (lv_at hl 2 rfl) ?_
  refine lv_iload_n hx hb dL_cashByTrades_6 rfl (lv_at hl 3 rfl) ?_
  refine xVh hx hb hml hts hown hB hE hS kwL_77 (c_xbytr E ow x h0 h1 fx ts pa d1 d2 H hX hV hK) hO rfl (Nat.le_of_ble_eq_true rfl) rfl hl.1 rfl (Nat.le_of_ble_eq_true rfl) (by omega) (by omega) dL_cashByTrades_7 (fun X ce q9 H1 L1 hbad hz1 hq1 hE hS hce hcv hcl => ?_) (fun v1 H1 L1 ho1 hz1 hE hS => ?_)
  · obtain ⟨hne, hXn⟩ := hbad
    have hle := cdSpan_le pa d1 d2
    rcases (show cdSpan pa d1 d2 = 1 ∨ cdSpan pa d1 d2 = 2 by omega) with hcd | hcd <;> rw [hcd] at hXn <;> subst hXn
    · refine ctc (pre9 := []) (suf9 := [(0, 11, 18, 15)]) hts hown hxt hE rfl (fun z hz => by simp at hz) (by decide) qw1_104 (by decide) (by decide) hce hcv hcl ?_
      refine lv_astore (lv' := [(5, .ref q9), (0, .ref x), (1, .int pa), (2, .int d1), (3, .int d2), (4, .ref o)]) hx hb dL_cashByTrades_14 hl (by decide) rfl (fun ls hl => ?_)
      refine lv_iconst (v := 1) hx hb dL_cashByTrades_16 (by decide) ?_
      exact vx_ret (cI hx hb hr hlk hB hS (by omega) (by omega) (⟨by rw [hcd]; rfl, Or.inl ⟨by rw [hcd]; decide, WOut.same hX hJ hz1 hq1 hBF hgB trivial⟩⟩) dL_cashByTrades_17)
    · refine ctc (pre9 := [(0, 11, 14, 13)]) (suf9 := []) hts hown hxt hE rfl (fun z hz => by (have hz := List.mem_singleton.mp hz; subst hz; exact ⟨by decide, xI, qw1_104, by decide⟩)) (by decide) qw1_105 (by decide) (by decide) hce hcv hcl ?_
      refine lv_astore (lv' := [(5, .ref q9), (0, .ref x), (1, .int pa), (2, .int d1), (3, .int d2), (4, .ref o)]) hx hb dL_cashByTrades_18 hl (by decide) rfl (fun ls hl => ?_)
      refine lv_iconst (v := 2) hx hb dL_cashByTrades_20 (by decide) ?_
      exact vx_ret (cI hx hb hr hlk hB hS (by omega) (by omega) (⟨by rw [hcd]; rfl, Or.inl ⟨by rw [hcd]; decide, WOut.same hX hJ hz1 hq1 hBF hgB trivial⟩⟩) dL_cashByTrades_21)
  obtain ⟨⟨hcd, hv1⟩, hh1⟩ := ho1
  subst hv1
  have hh1 := hh1.symm
  subst hh1
  dsimp only [Option.toList, List.nil_append, List.cons_append]
  refine asJ (j := 0) hx hb hE hS hJ hgo (rfl : (0 : Int32) = nI 0) (by decide) (by decide) dL_cashByTrades_10 (fun H2 L2 hJ2 hz2 hq2 hE hS => ?_)
  refine lv_goto (tgt := 22) hx hb dL_cashByTrades_11 (by decide) ?_
  refine lv_iconst (v := 0) hx hb dL_cashByTrades_22 (by decide) ?_
  exact vx_ret (cI hx hb hr hlk hB hS (by omega) (by omega) (⟨by rw [hcd]; rfl, Or.inr ⟨hcd, WOut.put (XOut.rf hX) hJ2 ho hol hgo hz2 hq2 hBF (by show vp_updL f 0 _ 0 = _; exact pk_uLs)⟩⟩) dL_cashByTrades_23)

set_option maxRecDepth 100000 in
set_option maxHeartbeats 4000000 in
/-- nextFlow -/
theorem w_nextFlow (E : ET) (ow : Nat → Nat × Nat) (x o : Nat) (h0 h1 fx : Dy) (ts : List TR) (f : Nat → Int64) (pa d : Int32) (H : Heap) (hX : XR E ow x h0 h1 fx ts H) (hV : SV h0 h1 fx ts) (hK : BL ts) (hJ : JA E 1 f o H) (ho : ow o = (4, 100)) (hgo : eB E ≤ o)  : WCon E yL_nextFlow cL_nextFlow 5 (some FieldType.int) [(0, 10, 13, 13), (0, 10, 17, 15)] 11 2 12 [.ref x, .int pa, .int d, .ref o] H (fun v H' => v = some (.int (nI (cdCash pa d))) ∧ ((¬ cdCash pa d = 0 ∧ WOut E ow x o h0 h1 fx ts (fun _ => True) H H') ∨ (cdCash pa d = 0 ∧ WOut E ow x o h0 h1 fx ts (fun g => g 0 = (nxT h0 h1 pa d (-1) ts).toInt64) H H'))) := by
  refine WCon.of (C := RL) rfl (by decide +kernel) (Nat.le_of_ble_eq_true rfl) ?_
  intro p e s m below meth co ls hx hb hr hlk hml hown hts hxt hE hH hS hl
  have hl : lv_has ls 5 [(0, .ref x), (1, .int pa), (2, .int d), (3, .ref o)] := hl
  have hB : eB E ≤ s.heap.size := by rw [hH]; exact hE.2.1
  have hBF := hE.2.2.1
  have hgB : eB E ≤ H.size := hE.2.1
  have hol := plt hJ
  have hO := hX.x.choose_spec.choose_spec.choose_spec.choose_spec.1
  refine lv_aload_n hx hb dL_nextFlow_0 rfl (lv_at hl 3 rfl) ?_
  refine lv_iconst (v := 0) hx hb dL_nextFlow_1 (by decide) ?_
  refine lv_aload_n hx hb dL_nextFlow_2 rfl (lv_at hl 0 rfl) ?_
  refine lv_iload_n hx hb dL_nextFlow_3 rfl (lv_at hl 1 rfl) ?_
  refine lv_iload_n hx hb dL_nextFlow_4 rfl (lv_at hl 2 rfl) ?_
  refine xVh hx hb hml hts hown hB hE hS kwL_80 (c_xnext E ow x h0 h1 fx ts pa d H hX hV hK) hO rfl (Nat.le_of_ble_eq_true rfl) rfl hl.1 rfl (Nat.le_of_ble_eq_true rfl) (by omega) (by omega) dL_nextFlow_5 (fun X ce q9 H1 L1 hbad hz1 hq1 hE hS hce hcv hcl => ?_) (fun v1 H1 L1 ho1 hz1 hE hS => ?_)
  · obtain ⟨hne, hXn⟩ := hbad
    have hle := cdCash_le pa d
    rcases (show cdCash pa d = 1 ∨ cdCash pa d = 2 by omega) with hcd | hcd <;> rw [hcd] at hXn <;> subst hXn
    · refine ctc (pre9 := []) (suf9 := [(0, 10, 17, 15)]) hts hown hxt hE rfl (fun z hz => by simp at hz) (by decide) qw1_104 (by decide) (by decide) hce hcv hcl ?_
      refine lv_astore (lv' := [(4, .ref q9), (0, .ref x), (1, .int pa), (2, .int d), (3, .ref o)]) hx hb dL_nextFlow_13 hl (by decide) rfl (fun ls hl => ?_)
      refine lv_iconst (v := 1) hx hb dL_nextFlow_15 (by decide) ?_
      exact vx_ret (cI hx hb hr hlk hB hS (by omega) (by omega) (⟨by rw [hcd]; rfl, Or.inl ⟨by rw [hcd]; decide, WOut.same hX hJ hz1 hq1 hBF hgB trivial⟩⟩) dL_nextFlow_16)
    · refine ctc (pre9 := [(0, 10, 13, 13)]) (suf9 := []) hts hown hxt hE rfl (fun z hz => by (have hz := List.mem_singleton.mp hz; subst hz; exact ⟨by decide, xI, qw1_104, by decide⟩)) (by decide) qw1_105 (by decide) (by decide) hce hcv hcl ?_
      refine lv_astore (lv' := [(4, .ref q9), (0, .ref x), (1, .int pa), (2, .int d), (3, .ref o)]) hx hb dL_nextFlow_17 hl (by decide) rfl (fun ls hl => ?_)
      refine lv_iconst (v := 2) hx hb dL_nextFlow_19 (by decide) ?_
      exact vx_ret (cI hx hb hr hlk hB hS (by omega) (by omega) (⟨by rw [hcd]; rfl, Or.inl ⟨by rw [hcd]; decide, WOut.same hX hJ hz1 hq1 hBF hgB trivial⟩⟩) dL_nextFlow_20)
  obtain ⟨⟨hcd, hv1⟩, hh1⟩ := ho1
  subst hv1
  have hh1 := hh1.symm
  subst hh1
  dsimp only [Option.toList, List.nil_append, List.cons_append]
  refine lv_i2l hx hb dL_nextFlow_8 rfl ?_
  refine asJ (j := 0) hx hb hE hS hJ hgo (rfl : (0 : Int32) = nI 0) (by decide) (by decide) dL_nextFlow_9 (fun H2 L2 hJ2 hz2 hq2 hE hS => ?_)
  refine lv_goto (tgt := 21) hx hb dL_nextFlow_10 (by decide) ?_
  refine lv_iconst (v := 0) hx hb dL_nextFlow_21 (by decide) ?_
  exact vx_ret (cI hx hb hr hlk hB hS (by omega) (by omega) (⟨by rw [hcd]; rfl, Or.inr ⟨hcd, WOut.put (XOut.rf hX) hJ2 ho hol hgo hz2 hq2 hBF (by show vp_updL f 0 _ 0 = _; exact pk_uLs)⟩⟩) dL_nextFlow_22)

set_option maxRecDepth 100000 in
set_option maxHeartbeats 4000000 in
/-- holiday -/
theorem w_holiday (E : ET) (ow : Nat → Nat × Nat) (x o : Nat) (h0 h1 fx : Dy) (ts : List TR) (f : Nat → Int64) (town d : Int32) (H : Heap) (hX : XR E ow x h0 h1 fx ts H) (hV : SV h0 h1 fx ts) (hK : BL ts) (hJ : JA E 1 f o H) (ho : ow o = (4, 100)) (hgo : eB E ≤ o)  : WCon E yL_holiday cL_holiday 5 (some FieldType.int) [(0, 10, 13, 13), (0, 10, 17, 15), (0, 10, 21, 17)] 11 4 70 [.ref x, .int town, .int d, .ref o] H (fun v H' => v = some (.int (nI (cdHol h0 h1 town d))) ∧ ((¬ cdHol h0 h1 town d = 0 ∧ WOut E ow x o h0 h1 fx ts (fun _ => True) H H') ∨ (cdHol h0 h1 town d = 0 ∧ WOut E ow x o (if town = 0 then h0 ++ [(d, town)] else h0) (if town = 0 then h1 else h1 ++ [(d, town)]) fx ts (fun g => g 0 = (nI ((if town = 0 then h0 else h1).length + 1)).toInt64) H H'))) := by
  refine WCon.of (C := RL) rfl (by decide +kernel) (Nat.le_of_ble_eq_true rfl) ?_
  intro p e s m below meth co ls hx hb hr hlk hml hown hts hxt hE hH hS hl
  have hl : lv_has ls 5 [(0, .ref x), (1, .int town), (2, .int d), (3, .ref o)] := hl
  have hB : eB E ≤ s.heap.size := by rw [hH]; exact hE.2.1
  have hBF := hE.2.2.1
  have hgB : eB E ≤ H.size := hE.2.1
  have hol := plt hJ
  have hO := hX.x.choose_spec.choose_spec.choose_spec.choose_spec.1
  refine lv_aload_n hx hb dL_holiday_0 rfl (lv_at hl 3 rfl) ?_
  refine lv_iconst (v := 0) hx hb dL_holiday_1 (by decide) ?_
  refine lv_aload_n hx hb dL_holiday_2 rfl (lv_at hl 0 rfl) ?_
  refine lv_iload_n hx hb dL_holiday_3 rfl (lv_at hl 1 rfl) ?_
  refine lv_iload_n hx hb dL_holiday_4 rfl (lv_at hl 2 rfl) ?_
  refine xVh hx hb hml hts hown hB hE hS kwL_7 (c_xhol E ow x h0 h1 fx ts town d H hX hV hK) hO rfl (Nat.le_of_ble_eq_true rfl) rfl hl.1 rfl (Nat.le_of_ble_eq_true rfl) (by omega) (by omega) dL_holiday_5 (fun X ce q9 H1 L1 hbad hz1 hq1 hE hS hce hcv hcl => ?_) (fun v1 H1 L1 ho1 hz1 hE hS => ?_)
  · obtain ⟨hne, hXn⟩ := hbad
    have hle := cdHol_le h0 h1 town d
    rcases (show cdHol h0 h1 town d = 1 ∨ cdHol h0 h1 town d = 2 ∨ cdHol h0 h1 town d = 3 by omega) with hcd | hcd | hcd <;> rw [hcd] at hXn <;> subst hXn
    · refine ctc (pre9 := []) (suf9 := [(0, 10, 17, 15), (0, 10, 21, 17)]) hts hown hxt hE rfl (fun z hz => by simp at hz) (by decide) qw1_104 (by decide) (by decide) hce hcv hcl ?_
      refine lv_astore (lv' := [(4, .ref q9), (0, .ref x), (1, .int town), (2, .int d), (3, .ref o)]) hx hb dL_holiday_13 hl (by decide) rfl (fun ls hl => ?_)
      refine lv_iconst (v := 1) hx hb dL_holiday_15 (by decide) ?_
      exact vx_ret (cI hx hb hr hlk hB hS (by omega) (by omega) (⟨by rw [hcd]; rfl, Or.inl ⟨by rw [hcd]; decide, WOut.same hX hJ hz1 hq1 hBF hgB trivial⟩⟩) dL_holiday_16)
    · refine ctc (pre9 := [(0, 10, 13, 13)]) (suf9 := [(0, 10, 21, 17)]) hts hown hxt hE rfl (fun z hz => by (have hz := List.mem_singleton.mp hz; subst hz; exact ⟨by decide, xI, qw1_104, by decide⟩)) (by decide) qw1_105 (by decide) (by decide) hce hcv hcl ?_
      refine lv_astore (lv' := [(4, .ref q9), (0, .ref x), (1, .int town), (2, .int d), (3, .ref o)]) hx hb dL_holiday_17 hl (by decide) rfl (fun ls hl => ?_)
      refine lv_iconst (v := 2) hx hb dL_holiday_19 (by decide) ?_
      exact vx_ret (cI hx hb hr hlk hB hS (by omega) (by omega) (⟨by rw [hcd]; rfl, Or.inl ⟨by rw [hcd]; decide, WOut.same hX hJ hz1 hq1 hBF hgB trivial⟩⟩) dL_holiday_20)
    · refine ctc (pre9 := [(0, 10, 13, 13), (0, 10, 17, 15)]) (suf9 := []) hts hown hxt hE rfl (fun z hz => by (exact (List.mem_cons.mp hz).elim (fun e => by (subst e; exact ⟨by decide, xI, qw1_104, by decide⟩)) (fun hz => by (have hz := List.mem_singleton.mp hz; subst hz; exact ⟨by decide, xA, qw1_105, by decide⟩)))) (by decide) qw1_106 (by decide) (by decide) hce hcv hcl ?_
      refine lv_astore (lv' := [(4, .ref q9), (0, .ref x), (1, .int town), (2, .int d), (3, .ref o)]) hx hb dL_holiday_21 hl (by decide) rfl (fun ls hl => ?_)
      refine lv_iconst (v := 3) hx hb dL_holiday_23 (by decide) ?_
      exact vx_ret (cI hx hb hr hlk hB hS (by omega) (by omega) (⟨by rw [hcd]; rfl, Or.inl ⟨by rw [hcd]; decide, WOut.same hX hJ hz1 hq1 hBF hgB trivial⟩⟩) dL_holiday_24)
  obtain ⟨⟨hcd, hv1⟩, hXo⟩ := ho1
  subst hv1
  dsimp only [Option.toList, List.nil_append, List.cons_append]
  have hJ1 : JA E 1 f o H1 := by obtain ⟨ow9, -, -, -, hF9⟩ := id hXo; exact hF9.at hJ (by rw [ho]; decide)
  refine lv_i2l hx hb dL_holiday_8 rfl ?_
  refine asJ (j := 0) hx hb hE hS hJ1 hgo (rfl : (0 : Int32) = nI 0) (by decide) (by decide) dL_holiday_9 (fun H2 L2 hJ2 hz2 hq2 hE hS => ?_)
  refine lv_goto (tgt := 25) hx hb dL_holiday_10 (by decide) ?_
  refine lv_iconst (v := 0) hx hb dL_holiday_25 (by decide) ?_
  exact vx_ret (cI hx hb hr hlk hB hS (by omega) (by omega) (⟨by rw [hcd]; rfl, Or.inr ⟨hcd, WOut.put hXo hJ2 ho hol hgo hz2 hq2 hBF (by show vp_updL f 0 _ 0 = _; exact pk_uLs)⟩⟩) dL_holiday_26)

set_option maxRecDepth 100000 in
set_option maxHeartbeats 4000000 in
/-- fix -/
theorem w_fix (E : ET) (ow : Nat → Nat × Nat) (x o : Nat) (h0 h1 fx : Dy) (ts : List TR) (f : Nat → Int64) (d r : Int32) (H : Heap) (hX : XR E ow x h0 h1 fx ts H) (hV : SV h0 h1 fx ts) (hK : BL ts) (hJ : JA E 1 f o H) (ho : ow o = (4, 100)) (hgo : eB E ≤ o)  : WCon E yL_fix cL_fix 5 (some FieldType.int) [(0, 10, 13, 15), (0, 10, 17, 17)] 11 4 (30 + 2 * fx.length) [.ref x, .int d, .int r, .ref o] H (fun v H' => v = some (.int (nI (cdFix fx d r))) ∧ ((¬ cdFix fx d r = 0 ∧ WOut E ow x o h0 h1 fx ts (fun _ => True) H H') ∨ (cdFix fx d r = 0 ∧ WOut E ow x o h0 h1 (dPut fx d r) ts (fun g => g 0 = (nI (dPut fx d r).length).toInt64) H H'))) := by
  refine WCon.of (C := RL) rfl (by decide +kernel) (Nat.le_of_ble_eq_true rfl) ?_
  intro p e s m below meth co ls hx hb hr hlk hml hown hts hxt hE hH hS hl
  have hl : lv_has ls 5 [(0, .ref x), (1, .int d), (2, .int r), (3, .ref o)] := hl
  have hB : eB E ≤ s.heap.size := by rw [hH]; exact hE.2.1
  have hBF := hE.2.2.1
  have hgB : eB E ≤ H.size := hE.2.1
  have hol := plt hJ
  have hO := hX.x.choose_spec.choose_spec.choose_spec.choose_spec.1
  refine lv_aload_n hx hb dL_fix_0 rfl (lv_at hl 3 rfl) ?_
  refine lv_iconst (v := 0) hx hb dL_fix_1 (by decide) ?_
  refine lv_aload_n hx hb dL_fix_2 rfl (lv_at hl 0 rfl) ?_
  refine lv_iload_n hx hb dL_fix_3 rfl (lv_at hl 1 rfl) ?_
  refine lv_iload_n hx hb dL_fix_4 rfl (lv_at hl 2 rfl) ?_
  refine xVh hx hb hml hts hown hB hE hS kwL_27 (c_xfix E ow x h0 h1 fx ts d r H hX hV hK) hO rfl (Nat.le_of_ble_eq_true rfl) rfl hl.1 rfl (Nat.le_of_ble_eq_true rfl) (by omega) (by omega) dL_fix_5 (fun X ce q9 H1 L1 hbad hz1 hq1 hE hS hce hcv hcl => ?_) (fun v1 H1 L1 ho1 hz1 hE hS => ?_)
  · obtain ⟨hne, hXn⟩ := hbad
    have hle := cdFix_le fx d r
    rcases (show cdFix fx d r = 1 ∨ cdFix fx d r = 2 by omega) with hcd | hcd <;> rw [hcd] at hXn <;> subst hXn
    · refine ctc (pre9 := []) (suf9 := [(0, 10, 17, 17)]) hts hown hxt hE rfl (fun z hz => by simp at hz) (by decide) qw1_105 (by decide) (by decide) hce hcv hcl ?_
      refine lv_astore (lv' := [(4, .ref q9), (0, .ref x), (1, .int d), (2, .int r), (3, .ref o)]) hx hb dL_fix_13 hl (by decide) rfl (fun ls hl => ?_)
      refine lv_iconst (v := 1) hx hb dL_fix_15 (by decide) ?_
      exact vx_ret (cI hx hb hr hlk hB hS (by omega) (by omega) (⟨by rw [hcd]; rfl, Or.inl ⟨by rw [hcd]; decide, WOut.same hX hJ hz1 hq1 hBF hgB trivial⟩⟩) dL_fix_16)
    · refine ctc (pre9 := [(0, 10, 13, 15)]) (suf9 := []) hts hown hxt hE rfl (fun z hz => by (have hz := List.mem_singleton.mp hz; subst hz; exact ⟨by decide, xA, qw1_105, by decide⟩)) (by decide) qw1_106 (by decide) (by decide) hce hcv hcl ?_
      refine lv_astore (lv' := [(4, .ref q9), (0, .ref x), (1, .int d), (2, .int r), (3, .ref o)]) hx hb dL_fix_17 hl (by decide) rfl (fun ls hl => ?_)
      refine lv_iconst (v := 2) hx hb dL_fix_19 (by decide) ?_
      exact vx_ret (cI hx hb hr hlk hB hS (by omega) (by omega) (⟨by rw [hcd]; rfl, Or.inl ⟨by rw [hcd]; decide, WOut.same hX hJ hz1 hq1 hBF hgB trivial⟩⟩) dL_fix_20)
  obtain ⟨⟨hcd, hv1⟩, hXo⟩ := ho1
  subst hv1
  dsimp only [Option.toList, List.nil_append, List.cons_append]
  have hJ1 : JA E 1 f o H1 := by obtain ⟨ow9, -, -, -, hF9⟩ := id hXo; exact hF9.at hJ (by rw [ho]; decide)
  refine lv_i2l hx hb dL_fix_8 rfl ?_
  refine asJ (j := 0) hx hb hE hS hJ1 hgo (rfl : (0 : Int32) = nI 0) (by decide) (by decide) dL_fix_9 (fun H2 L2 hJ2 hz2 hq2 hE hS => ?_)
  refine lv_goto (tgt := 21) hx hb dL_fix_10 (by decide) ?_
  refine lv_iconst (v := 0) hx hb dL_fix_21 (by decide) ?_
  exact vx_ret (cI hx hb hr hlk hB hS (by omega) (by omega) (⟨by rw [hcd]; rfl, Or.inr ⟨hcd, WOut.put hXo hJ2 ho hol hgo hz2 hq2 hBF (by show vp_updL f 0 _ 0 = _; exact pk_uLs)⟩⟩) dL_fix_22)

set_option maxRecDepth 100000 in
set_option maxHeartbeats 4000000 in
/-- trade -/
theorem w_trade (E : ET) (ow : Nat → Nat × Nat) (x o : Nat) (h0 h1 fx : Dy) (ts : List TR) (f : Nat → Int64) (pa lo py fi fs le pe : Int32) (H : Heap) (hX : XR E ow x h0 h1 fx ts H) (hV : SV h0 h1 fx ts) (hK : BL ts) (hJ : JA E 1 f o H) (ho : ow o = (4, 100)) (hgo : eB E ≤ o) (hpy : py = 0 ∨ py = 1) : WCon E yL_trade cL_trade 10 (some FieldType.int) [(0, 20, 23, 13), (0, 20, 27, 15), (0, 20, 31, 17)] 11 14 110 [.ref x, .int pa, .int lo, .int py, .int fi, .int fs, .int le, .int pe, .ref o] H (fun v H' => v = some (.int (nI (cdTrd ts pa lo fi fs le pe))) ∧ ((¬ cdTrd ts pa lo fi fs le pe = 0 ∧ WOut E ow x o h0 h1 fx ts (fun _ => True) H H') ∨ (cdTrd ts pa lo fi fs le pe = 0 ∧ WOut E ow x o h0 h1 fx (ts ++ [(mkT pa lo py fi fs le pe, [], [])]) (fun g => g 0 = (nI ts.length).toInt64) H H'))) := by
  refine WCon.of (C := RL) rfl (by decide +kernel) (Nat.le_of_ble_eq_true rfl) ?_
  intro p e s m below meth co ls hx hb hr hlk hml hown hts hxt hE hH hS hl
  have hl : lv_has ls 10 [(0, .ref x), (1, .int pa), (2, .int lo), (3, .int py), (4, .int fi), (5, .int fs), (6, .int le), (7, .int pe), (8, .ref o)] := hl
  have hB : eB E ≤ s.heap.size := by rw [hH]; exact hE.2.1
  have hBF := hE.2.2.1
  have hgB : eB E ≤ H.size := hE.2.1
  have hol := plt hJ
  have hO := hX.x.choose_spec.choose_spec.choose_spec.choose_spec.1
  refine lv_aload hx hb dL_trade_0 (lv_at hl 8 rfl) ?_
  refine lv_iconst (v := 0) hx hb dL_trade_2 (by decide) ?_
  refine lv_aload_n hx hb dL_trade_3 rfl (lv_at hl 0 rfl) ?_
  refine lv_iload_n hx hb dL_trade_4 rfl (lv_at hl 1 rfl) ?_
  refine lv_iload_n hx hb dL_trade_5 rfl (lv_at hl 2 rfl) ?_
  refine lv_iload_n hx hb dL_trade_6 rfl (lv_at hl 3 rfl) ?_
  refine lv_iload hx hb dL_trade_7 (lv_at hl 4 rfl) ?_
  refine lv_iload hx hb dL_trade_9 (lv_at hl 5 rfl) ?_
  refine lv_iload hx hb dL_trade_11 (lv_at hl 6 rfl) ?_
  refine lv_iload hx hb dL_trade_13 (lv_at hl 7 rfl) ?_
  refine xVh hx hb hml hts hown hB hE hS kwL_33 (c_xtrd E ow x h0 h1 fx ts pa lo py fi fs le pe H hX hV hK hpy) hO rfl (Nat.le_of_ble_eq_true rfl) rfl hl.1 rfl (Nat.le_of_ble_eq_true rfl) (by omega) (by omega) dL_trade_15 (fun X ce q9 H1 L1 hbad hz1 hq1 hE hS hce hcv hcl => ?_) (fun v1 H1 L1 ho1 hz1 hE hS => ?_)
  · obtain ⟨hne, hXn⟩ := hbad
    have hle := cdTrd_le ts pa lo fi fs le pe
    rcases (show cdTrd ts pa lo fi fs le pe = 1 ∨ cdTrd ts pa lo fi fs le pe = 2 ∨ cdTrd ts pa lo fi fs le pe = 3 by omega) with hcd | hcd | hcd <;> rw [hcd] at hXn <;> subst hXn
    · refine ctc (pre9 := []) (suf9 := [(0, 20, 27, 15), (0, 20, 31, 17)]) hts hown hxt hE rfl (fun z hz => by simp at hz) (by decide) qw1_104 (by decide) (by decide) hce hcv hcl ?_
      refine lv_astore (lv' := [(9, .ref q9), (0, .ref x), (1, .int pa), (2, .int lo), (3, .int py), (4, .int fi), (5, .int fs), (6, .int le), (7, .int pe), (8, .ref o)]) hx hb dL_trade_23 hl (by decide) rfl (fun ls hl => ?_)
      refine lv_iconst (v := 1) hx hb dL_trade_25 (by decide) ?_
      exact vx_ret (cI hx hb hr hlk hB hS (by omega) (by omega) (⟨by rw [hcd]; rfl, Or.inl ⟨by rw [hcd]; decide, WOut.same hX hJ hz1 hq1 hBF hgB trivial⟩⟩) dL_trade_26)
    · refine ctc (pre9 := [(0, 20, 23, 13)]) (suf9 := [(0, 20, 31, 17)]) hts hown hxt hE rfl (fun z hz => by (have hz := List.mem_singleton.mp hz; subst hz; exact ⟨by decide, xI, qw1_104, by decide⟩)) (by decide) qw1_105 (by decide) (by decide) hce hcv hcl ?_
      refine lv_astore (lv' := [(9, .ref q9), (0, .ref x), (1, .int pa), (2, .int lo), (3, .int py), (4, .int fi), (5, .int fs), (6, .int le), (7, .int pe), (8, .ref o)]) hx hb dL_trade_27 hl (by decide) rfl (fun ls hl => ?_)
      refine lv_iconst (v := 2) hx hb dL_trade_29 (by decide) ?_
      exact vx_ret (cI hx hb hr hlk hB hS (by omega) (by omega) (⟨by rw [hcd]; rfl, Or.inl ⟨by rw [hcd]; decide, WOut.same hX hJ hz1 hq1 hBF hgB trivial⟩⟩) dL_trade_30)
    · refine ctc (pre9 := [(0, 20, 23, 13), (0, 20, 27, 15)]) (suf9 := []) hts hown hxt hE rfl (fun z hz => by (exact (List.mem_cons.mp hz).elim (fun e => by (subst e; exact ⟨by decide, xI, qw1_104, by decide⟩)) (fun hz => by (have hz := List.mem_singleton.mp hz; subst hz; exact ⟨by decide, xA, qw1_105, by decide⟩)))) (by decide) qw1_106 (by decide) (by decide) hce hcv hcl ?_
      refine lv_astore (lv' := [(9, .ref q9), (0, .ref x), (1, .int pa), (2, .int lo), (3, .int py), (4, .int fi), (5, .int fs), (6, .int le), (7, .int pe), (8, .ref o)]) hx hb dL_trade_31 hl (by decide) rfl (fun ls hl => ?_)
      refine lv_iconst (v := 3) hx hb dL_trade_33 (by decide) ?_
      exact vx_ret (cI hx hb hr hlk hB hS (by omega) (by omega) (⟨by rw [hcd]; rfl, Or.inl ⟨by rw [hcd]; decide, WOut.same hX hJ hz1 hq1 hBF hgB trivial⟩⟩) dL_trade_34)
  obtain ⟨⟨hcd, hv1⟩, hXo⟩ := ho1
  subst hv1
  dsimp only [Option.toList, List.nil_append, List.cons_append]
  have hJ1 : JA E 1 f o H1 := by obtain ⟨ow9, -, -, -, hF9⟩ := id hXo; exact hF9.at hJ (by rw [ho]; decide)
  refine lv_i2l hx hb dL_trade_18 rfl ?_
  refine asJ (j := 0) hx hb hE hS hJ1 hgo (rfl : (0 : Int32) = nI 0) (by decide) (by decide) dL_trade_19 (fun H2 L2 hJ2 hz2 hq2 hE hS => ?_)
  refine lv_goto (tgt := 35) hx hb dL_trade_20 (by decide) ?_
  refine lv_iconst (v := 0) hx hb dL_trade_35 (by decide) ?_
  exact vx_ret (cI hx hb hr hlk hB hS (by omega) (by omega) (⟨by rw [hcd]; rfl, Or.inr ⟨hcd, WOut.put hXo hJ2 ho hol hgo hz2 hq2 hBF (by show vp_updL f 0 _ 0 = _; exact pk_uLs)⟩⟩) dL_trade_36)

set_option maxRecDepth 100000 in
set_option maxHeartbeats 4000000 in
/-- setTerms -/
theorem w_setTerms (E : ET) (ow : Nat → Nat × Nat) (x o : Nat) (h0 h1 fx : Dy) (ts : List TR) (f : Nat → Int64) (t sp dc co9 : Int32) (H : Heap) (hX : XR E ow x h0 h1 fx ts H) (hV : SV h0 h1 fx ts) (hK : BL ts) (hJ : JA E 1 f o H) (ho : ow o = (4, 100)) (hgo : eB E ≤ o)  : WCon E yL_setTerms cL_setTerms 6 (some FieldType.int) [(0, 9, 12, 13), (0, 9, 16, 15), (0, 9, 20, 17)] 11 6 40 [.ref x, .int t, .int sp, .int dc, .int co9] H (fun v H' => v = some (.int (nI (cdSet ts t sp dc co9))) ∧ ((¬ cdSet ts t sp dc co9 = 0 ∧ WOut E ow x o h0 h1 fx ts (fun _ => True) H H') ∨ (cdSet ts t sp dc co9 = 0 ∧ ∃ tr i, t = nI i ∧ ts[i]? = some tr ∧ WOut E ow x o h0 h1 fx (ts.set i (setT tr.1 sp dc co9, tr.2.1, tr.2.2)) (fun g => True) H H'))) := by
  refine WCon.of (C := RL) rfl (by decide +kernel) (Nat.le_of_ble_eq_true rfl) ?_
  intro p e s m below meth co ls hx hb hr hlk hml hown hts hxt hE hH hS hl
  have hl : lv_has ls 6 [(0, .ref x), (1, .int t), (2, .int sp), (3, .int dc), (4, .int co9)] := hl
  have hB : eB E ≤ s.heap.size := by rw [hH]; exact hE.2.1
  have hBF := hE.2.2.1
  have hgB : eB E ≤ H.size := hE.2.1
  have hol := plt hJ
  have hO := hX.x.choose_spec.choose_spec.choose_spec.choose_spec.1
  refine lv_aload_n hx hb dL_setTerms_0 rfl (lv_at hl 0 rfl) ?_
  refine lv_iload_n hx hb dL_setTerms_1 rfl (lv_at hl 1 rfl) ?_
  refine lv_iload_n hx hb dL_setTerms_2 rfl (lv_at hl 2 rfl) ?_
  refine lv_iload_n hx hb dL_setTerms_3 rfl (lv_at hl 3 rfl) ?_
  refine lv_iload hx hb dL_setTerms_4 (lv_at hl 4 rfl) ?_
  refine xVh hx hb hml hts hown hB hE hS kwL_37 (c_xset E ow x h0 h1 fx ts t sp dc co9 H hX hV hK) hO rfl (Nat.le_of_ble_eq_true rfl) rfl hl.1 rfl (Nat.le_of_ble_eq_true rfl) (by omega) (by omega) dL_setTerms_6 (fun X ce q9 H1 L1 hbad hz1 hq1 hE hS hce hcv hcl => ?_) (fun v1 H1 L1 ho1 hz1 hE hS => ?_)
  · obtain ⟨hne, hXn⟩ := hbad
    have hle := cdSet_le ts t sp dc co9
    rcases (show cdSet ts t sp dc co9 = 1 ∨ cdSet ts t sp dc co9 = 2 ∨ cdSet ts t sp dc co9 = 3 by omega) with hcd | hcd | hcd <;> rw [hcd] at hXn <;> subst hXn
    · refine ctc (pre9 := []) (suf9 := [(0, 9, 16, 15), (0, 9, 20, 17)]) hts hown hxt hE rfl (fun z hz => by simp at hz) (by decide) qw1_104 (by decide) (by decide) hce hcv hcl ?_
      refine lv_astore (lv' := [(5, .ref q9), (0, .ref x), (1, .int t), (2, .int sp), (3, .int dc), (4, .int co9)]) hx hb dL_setTerms_12 hl (by decide) rfl (fun ls hl => ?_)
      refine lv_iconst (v := 1) hx hb dL_setTerms_14 (by decide) ?_
      exact vx_ret (cI hx hb hr hlk hB hS (by omega) (by omega) (⟨by rw [hcd]; rfl, Or.inl ⟨by rw [hcd]; decide, WOut.same hX hJ hz1 hq1 hBF hgB trivial⟩⟩) dL_setTerms_15)
    · refine ctc (pre9 := [(0, 9, 12, 13)]) (suf9 := [(0, 9, 20, 17)]) hts hown hxt hE rfl (fun z hz => by (have hz := List.mem_singleton.mp hz; subst hz; exact ⟨by decide, xI, qw1_104, by decide⟩)) (by decide) qw1_105 (by decide) (by decide) hce hcv hcl ?_
      refine lv_astore (lv' := [(5, .ref q9), (0, .ref x), (1, .int t), (2, .int sp), (3, .int dc), (4, .int co9)]) hx hb dL_setTerms_16 hl (by decide) rfl (fun ls hl => ?_)
      refine lv_iconst (v := 2) hx hb dL_setTerms_18 (by decide) ?_
      exact vx_ret (cI hx hb hr hlk hB hS (by omega) (by omega) (⟨by rw [hcd]; rfl, Or.inl ⟨by rw [hcd]; decide, WOut.same hX hJ hz1 hq1 hBF hgB trivial⟩⟩) dL_setTerms_19)
    · refine ctc (pre9 := [(0, 9, 12, 13), (0, 9, 16, 15)]) (suf9 := []) hts hown hxt hE rfl (fun z hz => by (exact (List.mem_cons.mp hz).elim (fun e => by (subst e; exact ⟨by decide, xI, qw1_104, by decide⟩)) (fun hz => by (have hz := List.mem_singleton.mp hz; subst hz; exact ⟨by decide, xA, qw1_105, by decide⟩)))) (by decide) qw1_106 (by decide) (by decide) hce hcv hcl ?_
      refine lv_astore (lv' := [(5, .ref q9), (0, .ref x), (1, .int t), (2, .int sp), (3, .int dc), (4, .int co9)]) hx hb dL_setTerms_20 hl (by decide) rfl (fun ls hl => ?_)
      refine lv_iconst (v := 3) hx hb dL_setTerms_22 (by decide) ?_
      exact vx_ret (cI hx hb hr hlk hB hS (by omega) (by omega) (⟨by rw [hcd]; rfl, Or.inl ⟨by rw [hcd]; decide, WOut.same hX hJ hz1 hq1 hBF hgB trivial⟩⟩) dL_setTerms_23)
  obtain ⟨tr, i, hi, et, etr, ht, hcd, hv1, hXo⟩ := ho1
  subst hv1
  dsimp only [Option.toList, List.nil_append, List.cons_append]
  have hJ1 : JA E 1 f o H1 := by obtain ⟨ow9, -, -, -, hF9⟩ := id hXo; exact hF9.at hJ (by rw [ho]; decide)
  refine lv_goto (tgt := 24) hx hb dL_setTerms_9 (by decide) ?_
  refine lv_iconst (v := 0) hx hb dL_setTerms_24 (by decide) ?_
  exact vx_ret (cI hx hb hr hlk hB hS (by omega) (by omega) (⟨by rw [hcd]; rfl, Or.inr ⟨hcd, tr, i, et, ht, WOut.only hXo hJ1 hBF hE.2.1⟩⟩) dL_setTerms_25)

set_option maxRecDepth 100000 in
set_option maxHeartbeats 4000000 in
/-- breakPart -/
theorem w_breakPart (E : ET) (ow : Nat → Nat × Nat) (x o : Nat) (h0 h1 fx : Dy) (ts : List TR) (f : Nat → Int64) (t d lo : Int32) (M : Nat) (H : Heap) (hX : XR E ow x h0 h1 fx ts H) (hV : SV h0 h1 fx ts) (hK : BL ts) (hJ : JA E 1 f o H) (ho : ow o = (4, 100)) (hgo : eB E ≤ o) (hM : ∀ tr ∈ ts, tr.2.1.length ≤ M) (hM5 : M ≤ 5000) : WCon E yL_breakPart cL_breakPart 6 (some FieldType.int) [(0, 12, 15, 13), (0, 12, 19, 15), (0, 12, 23, 17)] 11 6 (60 + 2 * M) [.ref x, .int t, .int d, .int lo, .ref o] H (fun v H' => v = some (.int (nI (cdBrk ts t d lo))) ∧ ((¬ cdBrk ts t d lo = 0 ∧ WOut E ow x o h0 h1 fx ts (fun _ => True) H H') ∨ (cdBrk ts t d lo = 0 ∧ ∃ tr i, t = nI i ∧ ts[i]? = some tr ∧ WOut E ow x o h0 h1 fx (ts.set i (brT tr d lo)) (fun g => g 0 = (nI (tr.2.1.length + 1)).toInt64) H H'))) := by
  refine WCon.of (C := RL) rfl (by decide +kernel) (Nat.le_of_ble_eq_true rfl) ?_
  intro p e s m below meth co ls hx hb hr hlk hml hown hts hxt hE hH hS hl
  have hl : lv_has ls 6 [(0, .ref x), (1, .int t), (2, .int d), (3, .int lo), (4, .ref o)] := hl
  have hB : eB E ≤ s.heap.size := by rw [hH]; exact hE.2.1
  have hBF := hE.2.2.1
  have hgB : eB E ≤ H.size := hE.2.1
  have hol := plt hJ
  have hO := hX.x.choose_spec.choose_spec.choose_spec.choose_spec.1
  refine lv_aload hx hb dL_breakPart_0 (lv_at hl 4 rfl) ?_
  refine lv_iconst (v := 0) hx hb dL_breakPart_2 (by decide) ?_
  refine lv_aload_n hx hb dL_breakPart_3 rfl (lv_at hl 0 rfl) ?_
  refine lv_iload_n hx hb dL_breakPart_4 rfl (lv_at hl 1 rfl) ?_
  refine lv_iload_n hx hb dL_breakPart_5 rfl (lv_at hl 2 rfl) ?_
  refine lv_iload_n hx hb dL_breakPart_6 rfl (lv_at hl 3 rfl) ?_
  refine xVh hx hb hml hts hown hB hE hS kwL_41 (c_xbrk E ow x h0 h1 fx ts t d lo M H hX hV hK hM hM5) hO rfl (Nat.le_of_ble_eq_true rfl) rfl hl.1 rfl (Nat.le_of_ble_eq_true rfl) (by omega) (by omega) dL_breakPart_7 (fun X ce q9 H1 L1 hbad hz1 hq1 hE hS hce hcv hcl => ?_) (fun v1 H1 L1 ho1 hz1 hE hS => ?_)
  · obtain ⟨hne, hXn⟩ := hbad
    have hle := cdBrk_le ts t d lo
    rcases (show cdBrk ts t d lo = 1 ∨ cdBrk ts t d lo = 2 ∨ cdBrk ts t d lo = 3 by omega) with hcd | hcd | hcd <;> rw [hcd] at hXn <;> subst hXn
    · refine ctc (pre9 := []) (suf9 := [(0, 12, 19, 15), (0, 12, 23, 17)]) hts hown hxt hE rfl (fun z hz => by simp at hz) (by decide) qw1_104 (by decide) (by decide) hce hcv hcl ?_
      refine lv_astore (lv' := [(5, .ref q9), (0, .ref x), (1, .int t), (2, .int d), (3, .int lo), (4, .ref o)]) hx hb dL_breakPart_15 hl (by decide) rfl (fun ls hl => ?_)
      refine lv_iconst (v := 1) hx hb dL_breakPart_17 (by decide) ?_
      exact vx_ret (cI hx hb hr hlk hB hS (by omega) (by omega) (⟨by rw [hcd]; rfl, Or.inl ⟨by rw [hcd]; decide, WOut.same hX hJ hz1 hq1 hBF hgB trivial⟩⟩) dL_breakPart_18)
    · refine ctc (pre9 := [(0, 12, 15, 13)]) (suf9 := [(0, 12, 23, 17)]) hts hown hxt hE rfl (fun z hz => by (have hz := List.mem_singleton.mp hz; subst hz; exact ⟨by decide, xI, qw1_104, by decide⟩)) (by decide) qw1_105 (by decide) (by decide) hce hcv hcl ?_
      refine lv_astore (lv' := [(5, .ref q9), (0, .ref x), (1, .int t), (2, .int d), (3, .int lo), (4, .ref o)]) hx hb dL_breakPart_19 hl (by decide) rfl (fun ls hl => ?_)
      refine lv_iconst (v := 2) hx hb dL_breakPart_21 (by decide) ?_
      exact vx_ret (cI hx hb hr hlk hB hS (by omega) (by omega) (⟨by rw [hcd]; rfl, Or.inl ⟨by rw [hcd]; decide, WOut.same hX hJ hz1 hq1 hBF hgB trivial⟩⟩) dL_breakPart_22)
    · refine ctc (pre9 := [(0, 12, 15, 13), (0, 12, 19, 15)]) (suf9 := []) hts hown hxt hE rfl (fun z hz => by (exact (List.mem_cons.mp hz).elim (fun e => by (subst e; exact ⟨by decide, xI, qw1_104, by decide⟩)) (fun hz => by (have hz := List.mem_singleton.mp hz; subst hz; exact ⟨by decide, xA, qw1_105, by decide⟩)))) (by decide) qw1_106 (by decide) (by decide) hce hcv hcl ?_
      refine lv_astore (lv' := [(5, .ref q9), (0, .ref x), (1, .int t), (2, .int d), (3, .int lo), (4, .ref o)]) hx hb dL_breakPart_23 hl (by decide) rfl (fun ls hl => ?_)
      refine lv_iconst (v := 3) hx hb dL_breakPart_25 (by decide) ?_
      exact vx_ret (cI hx hb hr hlk hB hS (by omega) (by omega) (⟨by rw [hcd]; rfl, Or.inl ⟨by rw [hcd]; decide, WOut.same hX hJ hz1 hq1 hBF hgB trivial⟩⟩) dL_breakPart_26)
  obtain ⟨tr, i, hi, et, etr, ht, hcd, hv1, hXo⟩ := ho1
  subst hv1
  dsimp only [Option.toList, List.nil_append, List.cons_append]
  have hJ1 : JA E 1 f o H1 := by obtain ⟨ow9, -, -, -, hF9⟩ := id hXo; exact hF9.at hJ (by rw [ho]; decide)
  refine lv_i2l hx hb dL_breakPart_10 rfl ?_
  refine asJ (j := 0) hx hb hE hS hJ1 hgo (rfl : (0 : Int32) = nI 0) (by decide) (by decide) dL_breakPart_11 (fun H2 L2 hJ2 hz2 hq2 hE hS => ?_)
  refine lv_goto (tgt := 27) hx hb dL_breakPart_12 (by decide) ?_
  refine lv_iconst (v := 0) hx hb dL_breakPart_27 (by decide) ?_
  exact vx_ret (cI hx hb hr hlk hB hS (by omega) (by omega) (⟨by rw [hcd]; rfl, Or.inr ⟨hcd, tr, i, et, ht, WOut.put hXo hJ2 ho hol hgo hz2 hq2 hBF (by show vp_updL f 0 _ 0 = _; exact pk_uLs)⟩⟩) dL_breakPart_28)

set_option maxRecDepth 100000 in
set_option maxHeartbeats 4000000 in
/-- handOver -/
theorem w_handOver (E : ET) (ow : Nat → Nat × Nat) (x o : Nat) (h0 h1 fx : Dy) (ts : List TR) (f : Nat → Int64) (t d pa : Int32) (H : Heap) (hX : XR E ow x h0 h1 fx ts H) (hV : SV h0 h1 fx ts) (hK : BL ts) (hJ : JA E 1 f o H) (ho : ow o = (4, 100)) (hgo : eB E ≤ o)  : WCon E yL_handOver cL_handOver 6 (some FieldType.int) [(0, 12, 15, 13), (0, 12, 19, 15), (0, 12, 23, 17)] 11 6 80 [.ref x, .int t, .int d, .int pa, .ref o] H (fun v H' => v = some (.int (nI (cdHnd ts t d pa))) ∧ ((¬ cdHnd ts t d pa = 0 ∧ WOut E ow x o h0 h1 fx ts (fun _ => True) H H') ∨ (cdHnd ts t d pa = 0 ∧ ∃ tr i, t = nI i ∧ ts[i]? = some tr ∧ WOut E ow x o h0 h1 fx (ts.set i (tr.1, tr.2.1, tr.2.2 ++ [(d, pa)])) (fun g => g 0 = (hldS tr.1 tr.2.2 d).toInt64) H H'))) := by
  refine WCon.of (C := RL) rfl (by decide +kernel) (Nat.le_of_ble_eq_true rfl) ?_
  intro p e s m below meth co ls hx hb hr hlk hml hown hts hxt hE hH hS hl
  have hl : lv_has ls 6 [(0, .ref x), (1, .int t), (2, .int d), (3, .int pa), (4, .ref o)] := hl
  have hB : eB E ≤ s.heap.size := by rw [hH]; exact hE.2.1
  have hBF := hE.2.2.1
  have hgB : eB E ≤ H.size := hE.2.1
  have hol := plt hJ
  have hO := hX.x.choose_spec.choose_spec.choose_spec.choose_spec.1
  refine lv_aload hx hb dL_handOver_0 (lv_at hl 4 rfl) ?_
  refine lv_iconst (v := 0) hx hb dL_handOver_2 (by decide) ?_
  refine lv_aload_n hx hb dL_handOver_3 rfl (lv_at hl 0 rfl) ?_
  refine lv_iload_n hx hb dL_handOver_4 rfl (lv_at hl 1 rfl) ?_
  refine lv_iload_n hx hb dL_handOver_5 rfl (lv_at hl 2 rfl) ?_
  refine lv_iload_n hx hb dL_handOver_6 rfl (lv_at hl 3 rfl) ?_
  refine xVh hx hb hml hts hown hB hE hS kwL_45 (c_xhnd E ow x h0 h1 fx ts t d pa H hX hV hK) hO rfl (Nat.le_of_ble_eq_true rfl) rfl hl.1 rfl (Nat.le_of_ble_eq_true rfl) (by omega) (by omega) dL_handOver_7 (fun X ce q9 H1 L1 hbad hz1 hq1 hE hS hce hcv hcl => ?_) (fun v1 H1 L1 ho1 hz1 hE hS => ?_)
  · obtain ⟨hne, hXn⟩ := hbad
    have hle := cdHnd_le ts t d pa
    rcases (show cdHnd ts t d pa = 1 ∨ cdHnd ts t d pa = 2 ∨ cdHnd ts t d pa = 3 by omega) with hcd | hcd | hcd <;> rw [hcd] at hXn <;> subst hXn
    · refine ctc (pre9 := []) (suf9 := [(0, 12, 19, 15), (0, 12, 23, 17)]) hts hown hxt hE rfl (fun z hz => by simp at hz) (by decide) qw1_104 (by decide) (by decide) hce hcv hcl ?_
      refine lv_astore (lv' := [(5, .ref q9), (0, .ref x), (1, .int t), (2, .int d), (3, .int pa), (4, .ref o)]) hx hb dL_handOver_15 hl (by decide) rfl (fun ls hl => ?_)
      refine lv_iconst (v := 1) hx hb dL_handOver_17 (by decide) ?_
      exact vx_ret (cI hx hb hr hlk hB hS (by omega) (by omega) (⟨by rw [hcd]; rfl, Or.inl ⟨by rw [hcd]; decide, WOut.same hX hJ hz1 hq1 hBF hgB trivial⟩⟩) dL_handOver_18)
    · refine ctc (pre9 := [(0, 12, 15, 13)]) (suf9 := [(0, 12, 23, 17)]) hts hown hxt hE rfl (fun z hz => by (have hz := List.mem_singleton.mp hz; subst hz; exact ⟨by decide, xI, qw1_104, by decide⟩)) (by decide) qw1_105 (by decide) (by decide) hce hcv hcl ?_
      refine lv_astore (lv' := [(5, .ref q9), (0, .ref x), (1, .int t), (2, .int d), (3, .int pa), (4, .ref o)]) hx hb dL_handOver_19 hl (by decide) rfl (fun ls hl => ?_)
      refine lv_iconst (v := 2) hx hb dL_handOver_21 (by decide) ?_
      exact vx_ret (cI hx hb hr hlk hB hS (by omega) (by omega) (⟨by rw [hcd]; rfl, Or.inl ⟨by rw [hcd]; decide, WOut.same hX hJ hz1 hq1 hBF hgB trivial⟩⟩) dL_handOver_22)
    · refine ctc (pre9 := [(0, 12, 15, 13), (0, 12, 19, 15)]) (suf9 := []) hts hown hxt hE rfl (fun z hz => by (exact (List.mem_cons.mp hz).elim (fun e => by (subst e; exact ⟨by decide, xI, qw1_104, by decide⟩)) (fun hz => by (have hz := List.mem_singleton.mp hz; subst hz; exact ⟨by decide, xA, qw1_105, by decide⟩)))) (by decide) qw1_106 (by decide) (by decide) hce hcv hcl ?_
      refine lv_astore (lv' := [(5, .ref q9), (0, .ref x), (1, .int t), (2, .int d), (3, .int pa), (4, .ref o)]) hx hb dL_handOver_23 hl (by decide) rfl (fun ls hl => ?_)
      refine lv_iconst (v := 3) hx hb dL_handOver_25 (by decide) ?_
      exact vx_ret (cI hx hb hr hlk hB hS (by omega) (by omega) (⟨by rw [hcd]; rfl, Or.inl ⟨by rw [hcd]; decide, WOut.same hX hJ hz1 hq1 hBF hgB trivial⟩⟩) dL_handOver_26)
  obtain ⟨tr, i, hi, et, etr, ht, hcd, hv1, hXo⟩ := ho1
  subst hv1
  dsimp only [Option.toList, List.nil_append, List.cons_append]
  have hJ1 : JA E 1 f o H1 := by obtain ⟨ow9, -, -, -, hF9⟩ := id hXo; exact hF9.at hJ (by rw [ho]; decide)
  refine lv_i2l hx hb dL_handOver_10 rfl ?_
  refine asJ (j := 0) hx hb hE hS hJ1 hgo (rfl : (0 : Int32) = nI 0) (by decide) (by decide) dL_handOver_11 (fun H2 L2 hJ2 hz2 hq2 hE hS => ?_)
  refine lv_goto (tgt := 27) hx hb dL_handOver_12 (by decide) ?_
  refine lv_iconst (v := 0) hx hb dL_handOver_27 (by decide) ?_
  exact vx_ret (cI hx hb hr hlk hB hS (by omega) (by omega) (⟨by rw [hcd]; rfl, Or.inr ⟨hcd, tr, i, et, ht, WOut.put hXo hJ2 ho hol hgo hz2 hq2 hBF (by show vp_updL f 0 _ 0 = _; exact pk_uLs)⟩⟩) dL_handOver_28)

set_option maxRecDepth 100000 in
set_option maxHeartbeats 4000000 in
/-- press -/
theorem w_press (E : ET) (ow : Nat → Nat × Nat) (x o : Nat) (h0 h1 fx : Dy) (ts : List TR) (f : Nat → Int64) (d : Int32) (K KK : Nat) (H : Heap) (hX : XR E ow x h0 h1 fx ts H) (hV : SV h0 h1 fx ts) (hK : BL ts) (hJ : JA E 1 f o H) (ho : ow o = (4, 100)) (hgo : eB E ≤ o) (hK9 : ∀ tr ∈ ts, tr.2.1.length ≤ K) (hKK : K + (prs h0 h1 d ts).2.2.1 ≤ KK) (hKK5 : KK ≤ 5000) : WCon E yL_press cL_press 4 (some FieldType.int) [(0, 9, 12, 15)] 11 (1 + 4 * (prs h0 h1 d ts).2.2.1) (6 + 2 * (2 + (2 * KK + 10)) * (prs h0 h1 d ts).2.2.1) [.ref x, .int d, .ref o] H (fun v H' => v = some (.int (nI (cdDay d))) ∧ ((¬ cdDay d = 0 ∧ WOut E ow x o h0 h1 fx ts (fun _ => True) H H') ∨ (cdDay d = 0 ∧ WOut E ow x o h0 h1 fx (prs h0 h1 d ts).1 (fun g => g 0 = ((prs h0 h1 d ts).2.1).toInt64) H H'))) := by
  refine WCon.of (C := RL) rfl (by decide +kernel) (Nat.le_of_ble_eq_true rfl) ?_
  intro p e s m below meth co ls hx hb hr hlk hml hown hts hxt hE hH hS hl
  have hl : lv_has ls 4 [(0, .ref x), (1, .int d), (2, .ref o)] := hl
  have hB : eB E ≤ s.heap.size := by rw [hH]; exact hE.2.1
  have hBF := hE.2.2.1
  have hgB : eB E ≤ H.size := hE.2.1
  have hol := plt hJ
  have hO := hX.x.choose_spec.choose_spec.choose_spec.choose_spec.1
  refine lv_aload_n hx hb dL_press_0 rfl (lv_at hl 2 rfl) ?_
  refine lv_iconst (v := 0) hx hb dL_press_1 (by decide) ?_
  refine lv_aload_n hx hb dL_press_2 rfl (lv_at hl 0 rfl) ?_
  refine lv_iload_n hx hb dL_press_3 rfl (lv_at hl 1 rfl) ?_
  refine xVh hx hb hml hts hown hB hE hS kwL_48 (c_xpress E ow x h0 h1 fx ts d K KK H hX hV hK hK9 hKK hKK5) hO rfl (Nat.le_of_ble_eq_true rfl) rfl hl.1 rfl (Nat.le_of_ble_eq_true rfl) (by omega) (by omega) dL_press_4 (fun X ce q9 H1 L1 hbad hz1 hq1 hE hS hce hcv hcl => ?_) (fun v1 H1 L1 ho1 hz1 hE hS => ?_)
  · obtain ⟨hXn, hin⟩ := hbad
    subst hXn
    have hcd : cdDay d = 1 := by unfold cdDay; rw [hin]; rfl
    refine ctc (pre9 := []) (suf9 := []) hts hown hxt hE rfl (fun z hz => by simp at hz) (by decide) qw1_105 (by decide) (by decide) hce hcv hcl ?_
    refine lv_astore_n (lv' := [(3, .ref q9), (0, .ref x), (1, .int d), (2, .ref o)]) hx hb dL_press_12 rfl hl (by decide) rfl (fun ls hl => ?_)
    refine lv_iconst (v := 1) hx hb dL_press_13 (by decide) ?_
    exact vx_ret (cI hx hb hr hlk hB hS (by omega) (by omega) (⟨by rw [hcd]; rfl, Or.inl ⟨by rw [hcd]; decide, WOut.same hX hJ hz1 hq1 hBF hgB trivial⟩⟩) dL_press_14)
  obtain ⟨⟨g1, hv1⟩, hXo⟩ := ho1
  subst hv1
  dsimp only [Option.toList, List.nil_append, List.cons_append]
  have hcd : cdDay d = 0 := by unfold cdDay; rw [g1]; rfl
  have hJ1 : JA E 1 f o H1 := by obtain ⟨ow9, -, -, -, hF9⟩ := id hXo; exact hF9.at hJ (by rw [ho]; decide)
  refine lv_i2l hx hb dL_press_7 rfl ?_
  refine asJ (j := 0) hx hb hE hS hJ1 hgo (rfl : (0 : Int32) = nI 0) (by decide) (by decide) dL_press_8 (fun H2 L2 hJ2 hz2 hq2 hE hS => ?_)
  refine lv_goto (tgt := 15) hx hb dL_press_9 (by decide) ?_
  refine lv_iconst (v := 0) hx hb dL_press_15 (by decide) ?_
  exact vx_ret (cI hx hb hr hlk hB hS (by omega) (by omega) (⟨by rw [hcd]; rfl, Or.inr ⟨hcd, WOut.put hXo hJ2 ho hol hgo hz2 hq2 hBF (by show vp_updL f 0 _ 0 = _; exact pk_uLs)⟩⟩) dL_press_16)
