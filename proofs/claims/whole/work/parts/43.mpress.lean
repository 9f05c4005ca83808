/-- the reference's search of the next pay day in one trade -/
def nxK (h0 h1 : Dy) (pa d : Int32) (tr : TR) : Nat → Nat → Int32 → Int32
  | 0, _, v => v
  | r + 1, k, v => nxK h0 h1 pa d tr r (k + 1) (if d ≤ bfC h0 h1 tr.1 (k + 1) ∧ (v = -1 ∨ bfC h0 h1 tr.1 (k + 1) < v) ∧ hldS tr.1 tr.2.2 (bfC h0 h1 tr.1 (k + 1)) = pa then bfC h0 h1 tr.1 (k + 1) else v)
theorem TV.bf {tr : TR} {h0 h1 : Dy} (h : TV tr) : ∃ f le : Nat, f ≤ 1000 ∧ le ≤ 180 ∧ np tr ≤ 10 ∧ ∀ k, k ≤ np tr → bfC h0 h1 tr.1 k = nI (rol h0 h1 (f + k * le)) := by
  obtain ⟨n6, n1, n10⟩ := h.n
  obtain ⟨f, le, n, t4, t5, t6, vf, vl, vn⟩ := h.t
  exact ⟨f, le, vf, vl, n10, fun k hk => bfC_eq t4 t5 n6 (by omega) (by omega) (by omega) hk⟩
theorem bf_mono {tr : TR} {h0 h1 : Dy} (h : TV tr) (n0 : h0.length ≤ 20) (n1 : h1.length ≤ 20) {i j : Nat} (hij : i ≤ j) (hj : j ≤ np tr) : bfC h0 h1 tr.1 i ≤ bfC h0 h1 tr.1 j ∧ ¬ bfC h0 h1 tr.1 i = -1 := by
  obtain ⟨f, le, vf, vl, n10, hb⟩ := h.bf (h0 := h0) (h1 := h1)
  rw [hb i (by omega), hb j hj]
  have a1 : i * le ≤ j * le := Nat.mul_le_mul_right le hij
  have a2 : j * le ≤ 10 * 180 := Nat.mul_le_mul (by omega) vl
  have b1 := rol_le h0 h1 (f + j * le)
  have b2 := rol_mono n0 n1 (d := f + i * le) (e := f + j * le) (by omega) (by omega)
  refine ⟨nI_le b2 (by omega), fun e => ?_⟩
  have p := nI_pos' (n := rol h0 h1 (f + i * le)) (by omega)
  rw [e] at p
  exact absurd p (by decide)
theorem npS_ge {tr : TR} {h0 h1 : Dy} (h : TV tr) (n0 : h0.length ≤ 20) (n1 : h1.length ≤ 20) (pa d : Int32) : ∀ r k j, j ≤ k + 1 → k + r ≤ np tr → npS tr.1 tr.2.2 (bfC h0 h1 tr.1) pa d r k = -1 ∨ bfC h0 h1 tr.1 j ≤ npS tr.1 tr.2.2 (bfC h0 h1 tr.1) pa d r k
  | 0, _, _, _, _ => Or.inl rfl
  | r + 1, k, j, hj, hk => by
    unfold npS
    split
    · exact Or.inr (bf_mono h n0 n1 hj (by omega)).1
    · exact npS_ge h n0 n1 pa d r (k + 1) j (by omega) (by omega)
theorem minO_le {v a b : Int32} (ha : ¬ a = -1) (h : b = -1 ∨ a ≤ b) : minO (minO v a) b = minO v a := by
  by_cases hb : b = -1
  · have k : ∀ w, minO w b = w := fun w => by unfold minO; rw [if_pos hb]
    exact k _
  · have hab : a ≤ b := h.resolve_left hb
    have e : minO v a = if v = -1 then a else if a < v then a else v := by
      unfold minO; rw [if_neg ha]
    have hw : ¬ minO v a = -1 ∧ minO v a ≤ a := by
      rw [e]
      by_cases c1 : v = -1
      · rw [if_pos c1]; exact ⟨ha, Int32.le_refl _⟩
      · rw [if_neg c1]
        by_cases c2 : a < v
        · rw [if_pos c2]; exact ⟨ha, Int32.le_refl _⟩
        · rw [if_neg c2]; exact ⟨c1, Int32.not_lt.mp c2⟩
    generalize minO v a = w at hw
    unfold minO
    rw [if_neg hb, if_neg hw.1, if_neg (Int32.not_lt.mpr (Int32.le_trans hw.2 hab))]
theorem nxK_eq {tr : TR} {h0 h1 : Dy} (h : TV tr) (n0 : h0.length ≤ 20) (n1 : h1.length ≤ 20) (pa d : Int32) : ∀ r k v, k + r ≤ np tr → nxK h0 h1 pa d tr r k v = minO v (npS tr.1 tr.2.2 (bfC h0 h1 tr.1) pa d r k)
  | 0, _, v, _ => by
    show v = minO v (-1)
    unfold minO
    rw [if_pos rfl]
  | r + 1, k, v, hk => by
    have ha := (bf_mono h n0 n1 (Nat.le_refl (k + 1)) (by omega)).2
    unfold nxK
    rw [nxK_eq h n0 n1 pa d r (k + 1) _ (by omega)]
    by_cases c : d ≤ bfC h0 h1 tr.1 (k + 1) ∧ hldS tr.1 tr.2.2 (bfC h0 h1 tr.1 (k + 1)) = pa
    · have e1 : npS tr.1 tr.2.2 (bfC h0 h1 tr.1) pa d (r + 1) k = bfC h0 h1 tr.1 (k + 1) := by
        show (if _ then _ else _) = _
        rw [if_pos c]
      rw [e1]
      have e2 : (if d ≤ bfC h0 h1 tr.1 (k + 1) ∧ (v = -1 ∨ bfC h0 h1 tr.1 (k + 1) < v) ∧ hldS tr.1 tr.2.2 (bfC h0 h1 tr.1 (k + 1)) = pa then bfC h0 h1 tr.1 (k + 1) else v) = minO v (bfC h0 h1 tr.1 (k + 1)) := by
        unfold minO
        rw [if_neg ha]
        by_cases c1 : v = -1
        · rw [if_pos ⟨c.1, Or.inl c1, c.2⟩, if_pos c1]
        · rw [if_neg c1]
          by_cases c2 : bfC h0 h1 tr.1 (k + 1) < v
          · rw [if_pos ⟨c.1, Or.inr c2, c.2⟩, if_pos c2]
          · rw [if_neg c2, if_neg (fun q => q.2.1.elim c1 c2)]
      rw [e2]
      exact minO_le ha (npS_ge h n0 n1 pa d r (k + 1) (k + 1) (by omega) (by omega))
    · have e1 : npS tr.1 tr.2.2 (bfC h0 h1 tr.1) pa d (r + 1) k = npS tr.1 tr.2.2 (bfC h0 h1 tr.1) pa d r (k + 1) := by
        show (if _ then _ else _) = _
        rw [if_neg c]
      rw [e1, if_neg (fun q => c ⟨q.1, q.2.2⟩)]
set_option maxRecDepth 100000 in
set_option maxHeartbeats 4000000 in
/-- nextFlow -/
theorem c_mnext (E : ET) (ow : Nat → Nat × Nat) (x : Nat) (sc : Nat → Int32) (ad : Nat → Nat) (ar : Nat → Nat → Int32) (h0 h1 fx : Dy) (ts : List TR) (B : BK) (pa d : Int32) (H : Heap) (hM : MR E ow x sc ad ar H) (hI : MI sc ar h0 h1 fx ts B) (hV : SV h0 h1 fx ts)  : Con E yX5_nextFlow cX5_nextFlow 7 (some FieldType.int) 8 0 0 [.ref x, .int pa, .int d] H (o1 (some (.int (if cdCash pa d = 0 then nxT h0 h1 pa d (-1) ts else 0))) (fun H' => MO E ow x h0 h1 fx ts B (cdCash pa d) H H')) := by
  refine Con.of (C := RX5) rfl (by decide +kernel) (Nat.le_of_ble_eq_true rfl) ?_
  intro p e s m below meth co ls hx hb hr hlk hml hown hts hin hE hH hS hl
  have hl : lv_has ls 7 [(0, .ref x), (1, .int pa), (2, .int d)] := hl
  have hB : eB E ≤ s.heap.size := by rw [hH]; exact hE.2.1
  have hO := hM.1.1
  have htn := hV.tn
  have hn6 := hI.2.2.2.2.1
  have hF : FR (fun z => (ow z).1 = 4 ∧ (ow z).2 ≤ 23) H H := FR.rf
  refine lv_aload_n hx hb dX5_nextFlow_0 rfl (lv_at hl 0 rfl) ?_
  refine lv_iload_n hx hb dX5_nextFlow_1 rfl (lv_at hl 1 rfl) ?_
  refine pS hx hb hml hts hown hE kwX5_105 (c_isParty E pa H) (Nat.le_of_ble_eq_true rfl) rfl hl.1 rfl (Nat.le_of_ble_eq_true rfl) (by omega) (by omega) dX5_nextFlow_2 ?_
  cases c3 : inB pa 0 3 with
  | false =>
    have hcd : cdCash pa d = 1 := by unfold cdCash; rw [c3]; rfl
    refine lv_if_ne (tgt := 12) hx hb dX5_nextFlow_5 (by decide) (fun c4 => ?_) (fun c4 => ?_)
    · exact absurd (by decide) c4
    refine lv_iconst (v := 1) hx hb dX5_nextFlow_8 (by decide) ?_
    refine lv_goto (tgt := 28) hx hb dX5_nextFlow_9 (by decide) ?_
    refine pf hx hb hts hown hE hS pkX5_71 rfl hO hM.2.1.2 rfl rfl (Nat.le_of_ble_eq_true rfl) dX5_nextFlow_28 (fun H1 L1 hO1 hz1 hq1 hE hS => ?_)
    have hO : OB E 6 [.int 1, .ref (ad 1), .ref (ad 2), .ref (ad 3), .ref (ad 4), .int (sc 5), .int (sc 6), .ref (ad 7), .ref (ad 8), .ref (ad 9), .ref (ad 10), .ref (ad 11), .ref (ad 12), .ref (ad 13), .ref (ad 14), .ref (ad 15), .ref (ad 16), .int (sc 17), .ref (ad 18), .ref (ad 19), .ref (ad 20), .ref (ad 21), .ref (ad 22), .ref (ad 23)] x H1 := hO1
    have hF := hF.put hz1 hq1 (fun _ => ⟨by rw [hM.2.1.1], by rw [hM.2.1.1]; exact Nat.zero_le _⟩)
    have hM := hM.put (sc' := (upd sc 0 1)) hO hq1
    have hI : MI (upd sc 0 1) ar h0 h1 fx ts B := hI
    refine lv_iconst (v := (-1)) hx hb dX5_nextFlow_31 (by decide) ?_
    refine lv_istore_n (lv' := [(3, .int (-1)), (0, .ref x), (1, .int pa), (2, .int d)]) hx hb dX5_nextFlow_32 rfl hl (by decide) rfl (fun ls hl => ?_)
    refine lv_iconst (v := 0) hx hb dX5_nextFlow_33 (by decide) ?_
    refine lv_istore (lv' := [(4, .int 0), (3, .int (-1)), (0, .ref x), (1, .int pa), (2, .int d)]) hx hb dX5_nextFlow_34 hl (by decide) rfl (fun ls hl => ?_)
    by_cases c0 : ts.length = 0
    · refine lv_iload hx hb dX5_nextFlow_36 (lv_at hl 0 rfl) ?_
      refine lv_aload_n hx hb dX5_nextFlow_38 rfl (lv_at hl 2 rfl) ?_
      refine gf hx hb hts hown hE lkX5_79 hO rfl dX5_nextFlow_39 ?_
      refine lv_icmp_ge (tgt := 127) hx hb dX5_nextFlow_42 (by decide) (fun c9 => ?_) (fun c9 => ?_)
      rotate_left
      · exact absurd (by rw [hn6, c0]; decide) c9
      refine lv_aload_n hx hb dX5_nextFlow_127 rfl (lv_at hl 2 rfl) ?_
      refine gf hx hb hts hown hE lkX5_71 hO rfl dX5_nextFlow_128 ?_
      refine lv_if_le (tgt := 138) hx hb dX5_nextFlow_131 (by decide) (fun c8 => ?_) (fun c8 => ?_)
      · exact absurd c8 (by decide)
      refine lv_iconst (v := 0) hx hb dX5_nextFlow_134 (by decide) ?_
      refine lv_goto (tgt := 139) hx hb dX5_nextFlow_135 (by decide) ?_
      exact cI hx hb hr hlk hB hS (by omega) (by omega) (⟨by rw [hcd]; rfl, ⟨(upd sc 0 1), ad, ar, hM, hI, by rw [hcd]; rfl⟩, hF, by omega⟩) dX5_nextFlow_139
    · refine lv_iload hx hb dX5_nextFlow_36 (lv_at hl 0 rfl) ?_
      refine lv_aload_n hx hb dX5_nextFlow_38 rfl (lv_at hl 2 rfl) ?_
      refine gf hx hb hts hown hE lkX5_79 hO rfl dX5_nextFlow_39 ?_
      refine lv_icmp_ge (tgt := 127) hx hb dX5_nextFlow_42 (by decide) (fun c9 => ?_) (fun c9 => ?_)
      · exact absurd c9 (by rw [hn6]; exact nI_ge (a := 0) (by omega) (by omega))
      refine lv_aload_n hx hb dX5_nextFlow_45 rfl (lv_at hl 2 rfl) ?_
      refine gf hx hb hts hown hE lkX5_71 hO rfl dX5_nextFlow_46 ?_
      refine lv_if_ne (tgt := 127) hx hb dX5_nextFlow_49 (by decide) (fun c7 => ?_) (fun c7 => ?_)
      rotate_left
      · exact absurd c7 (by decide)
      refine lv_aload_n hx hb dX5_nextFlow_127 rfl (lv_at hl 2 rfl) ?_
      refine gf hx hb hts hown hE lkX5_71 hO rfl dX5_nextFlow_128 ?_
      refine lv_if_le (tgt := 138) hx hb dX5_nextFlow_131 (by decide) (fun c8 => ?_) (fun c8 => ?_)
      · exact absurd c8 (by decide)
      refine lv_iconst (v := 0) hx hb dX5_nextFlow_134 (by decide) ?_
      refine lv_goto (tgt := 139) hx hb dX5_nextFlow_135 (by decide) ?_
      exact cI hx hb hr hlk hB hS (by omega) (by omega) (⟨by rw [hcd]; rfl, ⟨(upd sc 0 1), ad, ar, hM, hI, by rw [hcd]; rfl⟩, hF, by omega⟩) dX5_nextFlow_139
  | true =>
    refine lv_if_ne (tgt := 12) hx hb dX5_nextFlow_5 (by decide) (fun c4 => ?_) (fun c4 => ?_)
    rotate_left
    · exact absurd c4 (by decide)
    refine lv_iload_n hx hb dX5_nextFlow_12 rfl (lv_at hl 2 rfl) ?_
    refine lv_iconst (v := 0) hx hb dX5_nextFlow_13 (by decide) ?_
    refine lv_sipush (v := 3100) hx hb dX5_nextFlow_14 (by decide) ?_
    refine pS hx hb hml hts hown hE kwX5_75 (c_in E d 0 3100 H) (Nat.le_of_ble_eq_true rfl) rfl hl.1 rfl (Nat.le_of_ble_eq_true rfl) (by omega) (by omega) dX5_nextFlow_17 ?_
    cases c6 : inB d 0 3100 with
    | false =>
      have hcd : cdCash pa d = 2 := by unfold cdCash; rw [c3, c6]; rfl
      refine lv_if_eq (tgt := 27) hx hb dX5_nextFlow_20 (by decide) (fun c7 => ?_) (fun c7 => ?_)
      rotate_left
      · exact absurd (by decide) c7
      refine lv_iconst (v := 2) hx hb dX5_nextFlow_27 (by decide) ?_
      refine pf hx hb hts hown hE hS pkX5_71 rfl hO hM.2.1.2 rfl rfl (Nat.le_of_ble_eq_true rfl) dX5_nextFlow_28 (fun H1 L1 hO1 hz1 hq1 hE hS => ?_)
      have hO : OB E 6 [.int 2, .ref (ad 1), .ref (ad 2), .ref (ad 3), .ref (ad 4), .int (sc 5), .int (sc 6), .ref (ad 7), .ref (ad 8), .ref (ad 9), .ref (ad 10), .ref (ad 11), .ref (ad 12), .ref (ad 13), .ref (ad 14), .ref (ad 15), .ref (ad 16), .int (sc 17), .ref (ad 18), .ref (ad 19), .ref (ad 20), .ref (ad 21), .ref (ad 22), .ref (ad 23)] x H1 := hO1
      have hF := hF.put hz1 hq1 (fun _ => ⟨by rw [hM.2.1.1], by rw [hM.2.1.1]; exact Nat.zero_le _⟩)
      have hM := hM.put (sc' := (upd sc 0 2)) hO hq1
      have hI : MI (upd sc 0 2) ar h0 h1 fx ts B := hI
      refine lv_iconst (v := (-1)) hx hb dX5_nextFlow_31 (by decide) ?_
      refine lv_istore_n (lv' := [(3, .int (-1)), (0, .ref x), (1, .int pa), (2, .int d)]) hx hb dX5_nextFlow_32 rfl hl (by decide) rfl (fun ls hl => ?_)
      refine lv_iconst (v := 0) hx hb dX5_nextFlow_33 (by decide) ?_
      refine lv_istore (lv' := [(4, .int 0), (3, .int (-1)), (0, .ref x), (1, .int pa), (2, .int d)]) hx hb dX5_nextFlow_34 hl (by decide) rfl (fun ls hl => ?_)
      by_cases c0 : ts.length = 0
      · refine lv_iload hx hb dX5_nextFlow_36 (lv_at hl 0 rfl) ?_
        refine lv_aload_n hx hb dX5_nextFlow_38 rfl (lv_at hl 2 rfl) ?_
        refine gf hx hb hts hown hE lkX5_79 hO rfl dX5_nextFlow_39 ?_
        refine lv_icmp_ge (tgt := 127) hx hb dX5_nextFlow_42 (by decide) (fun c9 => ?_) (fun c9 => ?_)
        rotate_left
        · exact absurd (by rw [hn6, c0]; decide) c9
        refine lv_aload_n hx hb dX5_nextFlow_127 rfl (lv_at hl 2 rfl) ?_
        refine gf hx hb hts hown hE lkX5_71 hO rfl dX5_nextFlow_128 ?_
        refine lv_if_le (tgt := 138) hx hb dX5_nextFlow_131 (by decide) (fun c8 => ?_) (fun c8 => ?_)
        · exact absurd c8 (by decide)
        refine lv_iconst (v := 0) hx hb dX5_nextFlow_134 (by decide) ?_
        refine lv_goto (tgt := 139) hx hb dX5_nextFlow_135 (by decide) ?_
        exact cI hx hb hr hlk hB hS (by omega) (by omega) (⟨by rw [hcd]; rfl, ⟨(upd sc 0 2), ad, ar, hM, hI, by rw [hcd]; rfl⟩, hF, by omega⟩) dX5_nextFlow_139
      · refine lv_iload hx hb dX5_nextFlow_36 (lv_at hl 0 rfl) ?_
        refine lv_aload_n hx hb dX5_nextFlow_38 rfl (lv_at hl 2 rfl) ?_
        refine gf hx hb hts hown hE lkX5_79 hO rfl dX5_nextFlow_39 ?_
        refine lv_icmp_ge (tgt := 127) hx hb dX5_nextFlow_42 (by decide) (fun c9 => ?_) (fun c9 => ?_)
        · exact absurd c9 (by rw [hn6]; exact nI_ge (a := 0) (by omega) (by omega))
        refine lv_aload_n hx hb dX5_nextFlow_45 rfl (lv_at hl 2 rfl) ?_
        refine gf hx hb hts hown hE lkX5_71 hO rfl dX5_nextFlow_46 ?_
        refine lv_if_ne (tgt := 127) hx hb dX5_nextFlow_49 (by decide) (fun c7 => ?_) (fun c7 => ?_)
        rotate_left
        · exact absurd c7 (by decide)
        refine lv_aload_n hx hb dX5_nextFlow_127 rfl (lv_at hl 2 rfl) ?_
        refine gf hx hb hts hown hE lkX5_71 hO rfl dX5_nextFlow_128 ?_
        refine lv_if_le (tgt := 138) hx hb dX5_nextFlow_131 (by decide) (fun c8 => ?_) (fun c8 => ?_)
        · exact absurd c8 (by decide)
        refine lv_iconst (v := 0) hx hb dX5_nextFlow_134 (by decide) ?_
        refine lv_goto (tgt := 139) hx hb dX5_nextFlow_135 (by decide) ?_
        exact cI hx hb hr hlk hB hS (by omega) (by omega) (⟨by rw [hcd]; rfl, ⟨(upd sc 0 2), ad, ar, hM, hI, by rw [hcd]; rfl⟩, hF, by omega⟩) dX5_nextFlow_139
    | true =>
      have hcd : cdCash pa d = 0 := by unfold cdCash; rw [c3, c6]; rfl
      refine lv_if_eq (tgt := 27) hx hb dX5_nextFlow_20 (by decide) (fun c7 => ?_) (fun c7 => ?_)
      · exact absurd c7 (by decide)
      refine lv_iconst (v := 0) hx hb dX5_nextFlow_23 (by decide) ?_
      refine lv_goto (tgt := 28) hx hb dX5_nextFlow_24 (by decide) ?_
      refine pf hx hb hts hown hE hS pkX5_71 rfl hO hM.2.1.2 rfl rfl (Nat.le_of_ble_eq_true rfl) dX5_nextFlow_28 (fun H1 L1 hO1 hz1 hq1 hE hS => ?_)
      have hO : OB E 6 [.int 0, .ref (ad 1), .ref (ad 2), .ref (ad 3), .ref (ad 4), .int (sc 5), .int (sc 6), .ref (ad 7), .ref (ad 8), .ref (ad 9), .ref (ad 10), .ref (ad 11), .ref (ad 12), .ref (ad 13), .ref (ad 14), .ref (ad 15), .ref (ad 16), .int (sc 17), .ref (ad 18), .ref (ad 19), .ref (ad 20), .ref (ad 21), .ref (ad 22), .ref (ad 23)] x H1 := hO1
      have hF := hF.put hz1 hq1 (fun _ => ⟨by rw [hM.2.1.1], by rw [hM.2.1.1]; exact Nat.zero_le _⟩)
      have hM := hM.put (sc' := (upd sc 0 0)) hO hq1
      have hI : MI (upd sc 0 0) ar h0 h1 fx ts B := hI
      refine lv_iconst (v := (-1)) hx hb dX5_nextFlow_31 (by decide) ?_
      refine lv_istore_n (lv' := [(3, .int (-1)), (0, .ref x), (1, .int pa), (2, .int d)]) hx hb dX5_nextFlow_32 rfl hl (by decide) rfl (fun ls hl => ?_)
      refine lv_iconst (v := 0) hx hb dX5_nextFlow_33 (by decide) ?_
      refine lv_istore (lv' := [(4, .int 0), (3, .int (-1)), (0, .ref x), (1, .int pa), (2, .int d)]) hx hb dX5_nextFlow_34 hl (by decide) rfl (fun ls hl => ?_)
      have loop : ∀ (us : List TR) (t : Nat) (v : Int32) (ls : Array Slot), ts.drop t = us → t ≤ ts.length → nxT h0 h1 pa d (-1) ts = nxT h0 h1 pa d v us → lv_has ls 7 [(4, .int (nI t)), (3, .int v), (0, .ref x), (1, .int pa), (2, .int d)] → W p (eL E) e (rmk 8 0 0) s m ([.ref x, .int pa, .int d]).toArray below meth co H1 L1 0 0 (MQ below (CQ E (o1 (some (.int (if cdCash pa d = 0 then nxT h0 h1 pa d (-1) ts else 0))) (fun H' => MO E ow x h0 h1 fx ts B (cdCash pa d) H H'))) ([.ref x, .int pa, .int d]).toArray s 0 0 (fr E)) (F0 m 36 ls []) := by
        intro us
        induction us with
        | nil =>
          intro t v ls hd hi he hl
          have hi2 := drop_n hd hi
          refine lv_iload hx hb dX5_nextFlow_36 (lv_at hl 0 rfl) ?_
          refine lv_aload_n hx hb dX5_nextFlow_38 rfl (lv_at hl 2 rfl) ?_
          refine gf hx hb hts hown hE lkX5_79 hO rfl dX5_nextFlow_39 ?_
          refine lv_icmp_ge (tgt := 127) hx hb dX5_nextFlow_42 (by decide) (fun c9 => ?_) (fun c9 => ?_)
          rotate_left
          · exact absurd (by rw [hn6]; exact nI_le (by omega) (by omega)) c9
          refine lv_aload_n hx hb dX5_nextFlow_127 rfl (lv_at hl 2 rfl) ?_
          refine gf hx hb hts hown hE lkX5_71 hO rfl dX5_nextFlow_128 ?_
          refine lv_if_le (tgt := 138) hx hb dX5_nextFlow_131 (by decide) (fun c8 => ?_) (fun c8 => ?_)
          rotate_left
          · exact absurd (by decide) c8
          refine lv_iload_n hx hb dX5_nextFlow_138 rfl (lv_at hl 1 rfl) ?_
          exact cI hx hb hr hlk hB hS (by omega) (by omega) (⟨by rw [hcd]; rw [he]; rfl, ⟨(upd sc 0 0), ad, ar, hM, hI, by rw [hcd]; rfl⟩, hF, by omega⟩) dX5_nextFlow_139
        | cons tr us ih =>
          intro t v ls hd hi he hl
          obtain ⟨ht, hlt, hd2⟩ := drop_c hd
          have htv := hV.tv ht
          obtain ⟨n6, n1, n10⟩ := htv.n
          have hF9 := hI.2.2.2.2.2.1 t tr ht 6 (by omega)
          refine lv_iload hx hb dX5_nextFlow_36 (lv_at hl 0 rfl) ?_
          refine lv_aload_n hx hb dX5_nextFlow_38 rfl (lv_at hl 2 rfl) ?_
          refine gf hx hb hts hown hE lkX5_79 hO rfl dX5_nextFlow_39 ?_
          refine lv_icmp_ge (tgt := 127) hx hb dX5_nextFlow_42 (by decide) (fun c9 => ?_) (fun c9 => ?_)
          · exact absurd c9 (by rw [hn6]; exact nI_ge hlt (by omega))
          refine lv_aload_n hx hb dX5_nextFlow_45 rfl (lv_at hl 2 rfl) ?_
          refine gf hx hb hts hown hE lkX5_71 hO rfl dX5_nextFlow_46 ?_
          refine lv_if_ne (tgt := 127) hx hb dX5_nextFlow_49 (by decide) (fun c8 => ?_) (fun c8 => ?_)
          · exact absurd (by decide) c8
          refine lv_iconst (v := 0) hx hb dX5_nextFlow_52 (by decide) ?_
          refine lv_istore (lv' := [(5, .int 0), (4, .int (nI t)), (3, .int v), (0, .ref x), (1, .int pa), (2, .int d)]) hx hb dX5_nextFlow_53 hl (by decide) rfl (fun ls hl => ?_)
          have loop2 : ∀ (r k : Nat) (v : Int32) (ls : Array Slot), k + r = np tr → nxT h0 h1 pa d (-1) ts = nxT h0 h1 pa d (nxK h0 h1 pa d tr r k v) us → lv_has ls 7 [(5, .int (nI k)), (4, .int (nI t)), (3, .int v), (0, .ref x), (1, .int pa), (2, .int d)] → W p (eL E) e (rmk 8 0 0) s m ([.ref x, .int pa, .int d]).toArray below meth co H1 L1 0 0 (MQ below (CQ E (o1 (some (.int (if cdCash pa d = 0 then nxT h0 h1 pa d (-1) ts else 0))) (fun H' => MO E ow x h0 h1 fx ts B (cdCash pa d) H H'))) ([.ref x, .int pa, .int d]).toArray s 0 0 (fr E)) (F0 m 55 ls []) := by
            intro r
            induction r with
            | zero =>
              intro k v ls hk he hl
              refine lv_iload hx hb dX5_nextFlow_55 (lv_at hl 0 rfl) ?_
              refine lv_aload_n hx hb dX5_nextFlow_57 rfl (lv_at hl 3 rfl) ?_
              refine gf hx hb hts hown hE lkX5_41 hO rfl dX5_nextFlow_58 ?_
              refine lv_iload hx hb dX5_nextFlow_61 (lv_at hl 1 rfl) ?_
              have hA13 : IA E 10 (ar 13) (ad 13) H1 := hM.1.2 13 rfl
              refine aI hx hb hE hA13 rfl (by omega) (by omega) (hF9.trans n6) dX5_nextFlow_63 ?_
              refine lv_icmp_ge (tgt := 121) hx hb dX5_nextFlow_64 (by decide) (fun c7 => ?_) (fun c7 => ?_)
              rotate_left
              · exact absurd (nI_le (by omega) (by omega)) c7
              refine lv_iinc (v := nI (t + 1)) (lv' := [(4, .int (nI (t + 1))), (5, .int (nI k)), (3, .int v), (0, .ref x), (1, .int pa), (2, .int d)]) hx hb dX5_nextFlow_121 hl (k := 1) rfl (nI_1 t) (by decide) rfl (fun ls hl => ?_)
              refine lv_goto (tgt := 36) hx hb dX5_nextFlow_124 (by decide) ?_
              exact ih (t + 1) v ls hd2 (by omega) he (lv_sub hl [0, 2, 3, 4, 5] rfl)
            | succ r ih2 =>
              intro k v ls hk he hl
              refine lv_iload hx hb dX5_nextFlow_55 (lv_at hl 0 rfl) ?_
              refine lv_aload_n hx hb dX5_nextFlow_57 rfl (lv_at hl 3 rfl) ?_
              refine gf hx hb hts hown hE lkX5_41 hO rfl dX5_nextFlow_58 ?_
              refine lv_iload hx hb dX5_nextFlow_61 (lv_at hl 1 rfl) ?_
              have hA13 : IA E 10 (ar 13) (ad 13) H1 := hM.1.2 13 rfl
              refine aI hx hb hE hA13 rfl (by omega) (by omega) (hF9.trans n6) dX5_nextFlow_63 ?_
              refine lv_icmp_ge (tgt := 121) hx hb dX5_nextFlow_64 (by decide) (fun c7 => ?_) (fun c7 => ?_)
              · exact absurd c7 (nI_ge (by omega) (by omega))
              refine lv_aload_n hx hb dX5_nextFlow_67 rfl (lv_at hl 3 rfl) ?_
              refine lv_iload hx hb dX5_nextFlow_68 (lv_at hl 1 rfl) ?_
              refine lv_iload hx hb dX5_nextFlow_70 (lv_at hl 0 rfl) ?_
              refine lv_iconst (v := 1) hx hb dX5_nextFlow_72 (by decide) ?_
              refine lv_iadd hx hb dX5_nextFlow_73 ?_
              rw [nI_1 k]
              refine pV hx hb hml hts hown hE kwX5_128 (c_beg E x (upd sc 0 0) ad ar h0 h1 fx ts B t tr (k + 1) (np tr) H1 hM.1 hI hV ht n6 n10 (by omega)) hO rfl (Nat.le_of_ble_eq_true rfl) rfl hl.1 rfl (Nat.le_of_ble_eq_true rfl) (by omega) (by omega) dX5_nextFlow_74 ?_
              have hnx : nxK h0 h1 pa d tr (r + 1) k v = nxK h0 h1 pa d tr r (k + 1) (if d ≤ bfC h0 h1 tr.1 (k + 1) ∧ (v = -1 ∨ bfC h0 h1 tr.1 (k + 1) < v) ∧ hldS tr.1 tr.2.2 (bfC h0 h1 tr.1 (k + 1)) = pa then bfC h0 h1 tr.1 (k + 1) else v) := rfl
              rw [hnx] at he
              refine lv_istore (lv' := [(6, .int (bfC h0 h1 tr.1 (k + 1))), (5, .int (nI k)), (4, .int (nI t)), (3, .int v), (0, .ref x), (1, .int pa), (2, .int d)]) hx hb dX5_nextFlow_77 hl (by decide) rfl (fun ls hl => ?_)
              refine lv_iload hx hb dX5_nextFlow_79 (lv_at hl 0 rfl) ?_
              refine lv_iload_n hx hb dX5_nextFlow_81 rfl (lv_at hl 6 rfl) ?_
              refine lv_icmp_lt (tgt := 113) hx hb dX5_nextFlow_82 (by decide) (fun c1 => ?_) (fun c1 => ?_)
              · rw [if_neg (fun q9 => absurd c1 (Int32.not_lt.mpr q9.1))] at he
                refine lv_iload_n hx hb dX5_nextFlow_113 rfl (lv_at hl 3 rfl) ?_
                refine lv_istore_n (lv' := [(3, .int v), (6, .int (bfC h0 h1 tr.1 (k + 1))), (5, .int (nI k)), (4, .int (nI t)), (0, .ref x), (1, .int pa), (2, .int d)]) hx hb dX5_nextFlow_114 rfl hl (by decide) rfl (fun ls hl => ?_)
                refine lv_iinc (v := nI (k + 1)) (lv' := [(5, .int (nI (k + 1))), (3, .int v), (6, .int (bfC h0 h1 tr.1 (k + 1))), (4, .int (nI t)), (0, .ref x), (1, .int pa), (2, .int d)]) hx hb dX5_nextFlow_115 hl (k := 2) rfl (nI_1 k) (by decide) rfl (fun ls hl => ?_)
                refine lv_goto (tgt := 55) hx hb dX5_nextFlow_118 (by decide) ?_
                exact ih2 (k + 1) _ ls (by omega) he (lv_sub hl [0, 3, 1, 4, 5, 6] rfl)
              · refine lv_iload_n hx hb dX5_nextFlow_85 rfl (lv_at hl 3 rfl) ?_
                refine lv_iconst (v := (-1)) hx hb dX5_nextFlow_86 (by decide) ?_
                refine lv_icmp_eq (tgt := 96) hx hb dX5_nextFlow_87 (by decide) (fun c2 => ?_) (fun c2 => ?_)
                · refine lv_aload_n hx hb dX5_nextFlow_96 rfl (lv_at hl 4 rfl) ?_
                  refine lv_iload hx hb dX5_nextFlow_97 (lv_at hl 2 rfl) ?_
                  refine lv_iload hx hb dX5_nextFlow_99 (lv_at hl 0 rfl) ?_
                  refine pV hx hb hml hts hown hE kwX5_125 (c_mparty E x (upd sc 0 0) ad ar h0 h1 fx ts B t tr (bfC h0 h1 tr.1 (k + 1)) H1 hM.1 hI hV ht) hO rfl (Nat.le_of_ble_eq_true rfl) rfl hl.1 rfl (Nat.le_of_ble_eq_true rfl) (by omega) (by omega) dX5_nextFlow_101 ?_
                  refine lv_iload_n hx hb dX5_nextFlow_104 rfl (lv_at hl 5 rfl) ?_
                  refine lv_icmp_ne (tgt := 113) hx hb dX5_nextFlow_105 (by decide) (fun c3 => ?_) (fun c3 => ?_)
                  · rw [if_neg (fun q9 => c3 q9.2.2)] at he
                    refine lv_iload_n hx hb dX5_nextFlow_113 rfl (lv_at hl 3 rfl) ?_
                    refine lv_istore_n (lv' := [(3, .int v), (6, .int (bfC h0 h1 tr.1 (k + 1))), (5, .int (nI k)), (4, .int (nI t)), (0, .ref x), (1, .int pa), (2, .int d)]) hx hb dX5_nextFlow_114 rfl hl (by decide) rfl (fun ls hl => ?_)
                    refine lv_iinc (v := nI (k + 1)) (lv' := [(5, .int (nI (k + 1))), (3, .int v), (6, .int (bfC h0 h1 tr.1 (k + 1))), (4, .int (nI t)), (0, .ref x), (1, .int pa), (2, .int d)]) hx hb dX5_nextFlow_115 hl (k := 2) rfl (nI_1 k) (by decide) rfl (fun ls hl => ?_)
                    refine lv_goto (tgt := 55) hx hb dX5_nextFlow_118 (by decide) ?_
                    exact ih2 (k + 1) _ ls (by omega) he (lv_sub hl [0, 3, 1, 4, 5, 6] rfl)
                  · rw [if_pos (⟨Int32.not_lt.mp c1, Or.inl c2, c3⟩)] at he
                    refine lv_iload hx hb dX5_nextFlow_108 (lv_at hl 0 rfl) ?_
                    refine lv_goto (tgt := 114) hx hb dX5_nextFlow_110 (by decide) ?_
                    refine lv_istore_n (lv' := [(3, .int (bfC h0 h1 tr.1 (k + 1))), (6, .int (bfC h0 h1 tr.1 (k + 1))), (5, .int (nI k)), (4, .int (nI t)), (0, .ref x), (1, .int pa), (2, .int d)]) hx hb dX5_nextFlow_114 rfl hl (by decide) rfl (fun ls hl => ?_)
                    refine lv_iinc (v := nI (k + 1)) (lv' := [(5, .int (nI (k + 1))), (3, .int (bfC h0 h1 tr.1 (k + 1))), (6, .int (bfC h0 h1 tr.1 (k + 1))), (4, .int (nI t)), (0, .ref x), (1, .int pa), (2, .int d)]) hx hb dX5_nextFlow_115 hl (k := 2) rfl (nI_1 k) (by decide) rfl (fun ls hl => ?_)
                    refine lv_goto (tgt := 55) hx hb dX5_nextFlow_118 (by decide) ?_
                    exact ih2 (k + 1) _ ls (by omega) he (lv_sub hl [0, 3, 1, 4, 5, 6] rfl)
                · refine lv_iload hx hb dX5_nextFlow_90 (lv_at hl 0 rfl) ?_
                  refine lv_iload_n hx hb dX5_nextFlow_92 rfl (lv_at hl 3 rfl) ?_
                  refine lv_icmp_ge (tgt := 113) hx hb dX5_nextFlow_93 (by decide) (fun c4 => ?_) (fun c4 => ?_)
                  · rw [if_neg (fun q9 => q9.2.1.elim c2 (fun e => absurd e (Int32.not_lt.mpr c4)))] at he
                    refine lv_iload_n hx hb dX5_nextFlow_113 rfl (lv_at hl 3 rfl) ?_
                    refine lv_istore_n (lv' := [(3, .int v), (6, .int (bfC h0 h1 tr.1 (k + 1))), (5, .int (nI k)), (4, .int (nI t)), (0, .ref x), (1, .int pa), (2, .int d)]) hx hb dX5_nextFlow_114 rfl hl (by decide) rfl (fun ls hl => ?_)
                    refine lv_iinc (v := nI (k + 1)) (lv' := [(5, .int (nI (k + 1))), (3, .int v), (6, .int (bfC h0 h1 tr.1 (k + 1))), (4, .int (nI t)), (0, .ref x), (1, .int pa), (2, .int d)]) hx hb dX5_nextFlow_115 hl (k := 2) rfl (nI_1 k) (by decide) rfl (fun ls hl => ?_)
                    refine lv_goto (tgt := 55) hx hb dX5_nextFlow_118 (by decide) ?_
                    exact ih2 (k + 1) _ ls (by omega) he (lv_sub hl [0, 3, 1, 4, 5, 6] rfl)
                  · refine lv_aload_n hx hb dX5_nextFlow_96 rfl (lv_at hl 4 rfl) ?_
                    refine lv_iload hx hb dX5_nextFlow_97 (lv_at hl 2 rfl) ?_
                    refine lv_iload hx hb dX5_nextFlow_99 (lv_at hl 0 rfl) ?_
                    refine pV hx hb hml hts hown hE kwX5_125 (c_mparty E x (upd sc 0 0) ad ar h0 h1 fx ts B t tr (bfC h0 h1 tr.1 (k + 1)) H1 hM.1 hI hV ht) hO rfl (Nat.le_of_ble_eq_true rfl) rfl hl.1 rfl (Nat.le_of_ble_eq_true rfl) (by omega) (by omega) dX5_nextFlow_101 ?_
                    refine lv_iload_n hx hb dX5_nextFlow_104 rfl (lv_at hl 5 rfl) ?_
                    refine lv_icmp_ne (tgt := 113) hx hb dX5_nextFlow_105 (by decide) (fun c3 => ?_) (fun c3 => ?_)
                    · rw [if_neg (fun q9 => c3 q9.2.2)] at he
                      refine lv_iload_n hx hb dX5_nextFlow_113 rfl (lv_at hl 3 rfl) ?_
                      refine lv_istore_n (lv' := [(3, .int v), (6, .int (bfC h0 h1 tr.1 (k + 1))), (5, .int (nI k)), (4, .int (nI t)), (0, .ref x), (1, .int pa), (2, .int d)]) hx hb dX5_nextFlow_114 rfl hl (by decide) rfl (fun ls hl => ?_)
                      refine lv_iinc (v := nI (k + 1)) (lv' := [(5, .int (nI (k + 1))), (3, .int v), (6, .int (bfC h0 h1 tr.1 (k + 1))), (4, .int (nI t)), (0, .ref x), (1, .int pa), (2, .int d)]) hx hb dX5_nextFlow_115 hl (k := 2) rfl (nI_1 k) (by decide) rfl (fun ls hl => ?_)
                      refine lv_goto (tgt := 55) hx hb dX5_nextFlow_118 (by decide) ?_
                      exact ih2 (k + 1) _ ls (by omega) he (lv_sub hl [0, 3, 1, 4, 5, 6] rfl)
                    · rw [if_pos (⟨Int32.not_lt.mp c1, Or.inr (Int32.not_le.mp c4), c3⟩)] at he
                      refine lv_iload hx hb dX5_nextFlow_108 (lv_at hl 0 rfl) ?_
                      refine lv_goto (tgt := 114) hx hb dX5_nextFlow_110 (by decide) ?_
                      refine lv_istore_n (lv' := [(3, .int (bfC h0 h1 tr.1 (k + 1))), (6, .int (bfC h0 h1 tr.1 (k + 1))), (5, .int (nI k)), (4, .int (nI t)), (0, .ref x), (1, .int pa), (2, .int d)]) hx hb dX5_nextFlow_114 rfl hl (by decide) rfl (fun ls hl => ?_)
                      refine lv_iinc (v := nI (k + 1)) (lv' := [(5, .int (nI (k + 1))), (3, .int (bfC h0 h1 tr.1 (k + 1))), (6, .int (bfC h0 h1 tr.1 (k + 1))), (4, .int (nI t)), (0, .ref x), (1, .int pa), (2, .int d)]) hx hb dX5_nextFlow_115 hl (k := 2) rfl (nI_1 k) (by decide) rfl (fun ls hl => ?_)
                      refine lv_goto (tgt := 55) hx hb dX5_nextFlow_118 (by decide) ?_
                      exact ih2 (k + 1) _ ls (by omega) he (lv_sub hl [0, 3, 1, 4, 5, 6] rfl)
          exact loop2 (np tr) 0 v ls (by omega) (by rw [nxK_eq htv hV.1 hV.2.1 pa d (np tr) 0 v (by omega)]; exact he) (lv_sub hl [0, 1, 2, 3, 4, 5] rfl)
      exact loop ts 0 (-1) ls rfl (Nat.zero_le _) rfl (lv_sub hl [0, 1, 2, 3, 4] rfl)

set_option maxRecDepth 100000 in
set_option maxHeartbeats 4000000 in
/-- press -/
theorem c_mpress (E : ET) (ow : Nat → Nat × Nat) (x : Nat) (sc : Nat → Int32) (ad : Nat → Nat) (ar : Nat → Nat → Int32) (h0 h1 fx : Dy) (ts : List TR) (B : BK) (d : Int32) (H : Heap) (hM : MR E ow x sc ad ar H) (hI : MI sc ar h0 h1 fx ts B) (hV : SV h0 h1 fx ts) (hB9 : B.length + 2 * (prs h0 h1 d ts).2.2.1 ≤ 9000) : Con E yX5_press cX5_press 6 (some FieldType.int) 6 0 0 [.ref x, .int d] H (o1 (some (.int (if cdDay d = 0 then (prs h0 h1 d ts).2.1 else 0))) (fun H' => (¬ cdDay d = 0 ∧ MO E ow x h0 h1 fx ts B (cdDay d) H H') ∨ (cdDay d = 0 ∧ MO E ow x h0 h1 fx (prs h0 h1 d ts).1 (B ++ (prs h0 h1 d ts).2.2.2) 0 H H'))) := by
  refine Con.of (C := RX5) rfl (by decide +kernel) (Nat.le_of_ble_eq_true rfl) ?_
  intro p e s m below meth co ls hx hb hr hlk hml hown hts hin hE hH hS hl
  have hl : lv_has ls 6 [(0, .ref x), (1, .int d)] := hl
  have hB : eB E ≤ s.heap.size := by rw [hH]; exact hE.2.1
  have hO := hM.1.1
  have htn := hV.tn
  have hn6 := hI.2.2.2.2.1
  have hF : FR (fun z => (ow z).1 = 4 ∧ (ow z).2 ≤ 23) H H := FR.rf
  refine lv_aload_n hx hb dX5_press_0 rfl (lv_at hl 0 rfl) ?_
  refine lv_iload_n hx hb dX5_press_1 rfl (lv_at hl 1 rfl) ?_
  refine pS hx hb hml hts hown hE kwX5_89 (c_isDay E d H) (Nat.le_of_ble_eq_true rfl) rfl hl.1 rfl (Nat.le_of_ble_eq_true rfl) (by omega) (by omega) dX5_press_2 ?_
  cases c3 : inB d 0 3000 with
  | false =>
    have hcd : cdDay d = 1 := by unfold cdDay; rw [c3]; rfl
    refine lv_if_eq (tgt := 12) hx hb dX5_press_5 (by decide) (fun c4 => ?_) (fun c4 => ?_)
    rotate_left
    · exact absurd (by decide) c4
    refine lv_iconst (v := 1) hx hb dX5_press_12 (by decide) ?_
    refine pf hx hb hts hown hE hS pkX5_71 rfl hO hM.2.1.2 rfl rfl (Nat.le_of_ble_eq_true rfl) dX5_press_13 (fun H1 L1 hO1 hz1 hq1 hE hS => ?_)
    have hO : OB E 6 [.int 1, .ref (ad 1), .ref (ad 2), .ref (ad 3), .ref (ad 4), .int (sc 5), .int (sc 6), .ref (ad 7), .ref (ad 8), .ref (ad 9), .ref (ad 10), .ref (ad 11), .ref (ad 12), .ref (ad 13), .ref (ad 14), .ref (ad 15), .ref (ad 16), .int (sc 17), .ref (ad 18), .ref (ad 19), .ref (ad 20), .ref (ad 21), .ref (ad 22), .ref (ad 23)] x H1 := hO1
    have hF := hF.put hz1 hq1 (fun _ => ⟨by rw [hM.2.1.1], by rw [hM.2.1.1]; exact Nat.zero_le _⟩)
    have hM := hM.put (sc' := (upd sc 0 1)) hO hq1
    have hI : MI (upd sc 0 1) ar h0 h1 fx ts B := hI
    refine lv_iconst (v := 0) hx hb dX5_press_16 (by decide) ?_
    refine lv_istore_n (lv' := [(2, .int 0), (0, .ref x), (1, .int d)]) hx hb dX5_press_17 rfl hl (by decide) rfl (fun ls hl => ?_)
    refine lv_iconst (v := 0) hx hb dX5_press_18 (by decide) ?_
    refine lv_istore_n (lv' := [(3, .int 0), (2, .int 0), (0, .ref x), (1, .int d)]) hx hb dX5_press_19 rfl hl (by decide) rfl (fun ls hl => ?_)
    by_cases c0 : ts.length = 0
    · refine lv_iload_n hx hb dX5_press_20 rfl (lv_at hl 0 rfl) ?_
      refine lv_aload_n hx hb dX5_press_21 rfl (lv_at hl 2 rfl) ?_
      refine gf hx hb hts hown hE lkX5_79 hO rfl dX5_press_22 ?_
      refine lv_icmp_ge (tgt := 139) hx hb dX5_press_25 (by decide) (fun c9 => ?_) (fun c9 => ?_)
      rotate_left
      · exact absurd (by rw [hn6, c0]; decide) c9
      refine lv_iload_n hx hb dX5_press_139 rfl (lv_at hl 1 rfl) ?_
      exact cI hx hb hr hlk hB hS (by omega) (by omega) (⟨by rw [hcd]; rfl, Or.inl ⟨by rw [hcd]; decide, by rw [hcd]; exact ⟨⟨(upd sc 0 1), ad, ar, hM, hI, rfl⟩, hF, by omega⟩⟩⟩) dX5_press_140
    · refine lv_iload_n hx hb dX5_press_20 rfl (lv_at hl 0 rfl) ?_
      refine lv_aload_n hx hb dX5_press_21 rfl (lv_at hl 2 rfl) ?_
      refine gf hx hb hts hown hE lkX5_79 hO rfl dX5_press_22 ?_
      refine lv_icmp_ge (tgt := 139) hx hb dX5_press_25 (by decide) (fun c9 => ?_) (fun c9 => ?_)
      · exact absurd c9 (by rw [hn6]; exact nI_ge (a := 0) (by omega) (by omega))
      refine lv_aload_n hx hb dX5_press_28 rfl (lv_at hl 2 rfl) ?_
      refine gf hx hb hts hown hE lkX5_71 hO rfl dX5_press_29 ?_
      refine lv_if_ne (tgt := 139) hx hb dX5_press_32 (by decide) (fun c7 => ?_) (fun c7 => ?_)
      rotate_left
      · exact absurd c7 (by decide)
      refine lv_iload_n hx hb dX5_press_139 rfl (lv_at hl 1 rfl) ?_
      exact cI hx hb hr hlk hB hS (by omega) (by omega) (⟨by rw [hcd]; rfl, Or.inl ⟨by rw [hcd]; decide, by rw [hcd]; exact ⟨⟨(upd sc 0 1), ad, ar, hM, hI, rfl⟩, hF, by omega⟩⟩⟩) dX5_press_140
  | true =>
    have hcd : cdDay d = 0 := by unfold cdDay; rw [c3]; rfl
    refine lv_if_eq (tgt := 12) hx hb dX5_press_5 (by decide) (fun c4 => ?_) (fun c4 => ?_)
    · exact absurd c4 (by decide)
    refine lv_iconst (v := 0) hx hb dX5_press_8 (by decide) ?_
    refine lv_goto (tgt := 13) hx hb dX5_press_9 (by decide) ?_
    refine pf hx hb hts hown hE hS pkX5_71 rfl hO hM.2.1.2 rfl rfl (Nat.le_of_ble_eq_true rfl) dX5_press_13 (fun H1 L1 hO1 hz1 hq1 hE hS => ?_)
    have hO : OB E 6 [.int 0, .ref (ad 1), .ref (ad 2), .ref (ad 3), .ref (ad 4), .int (sc 5), .int (sc 6), .ref (ad 7), .ref (ad 8), .ref (ad 9), .ref (ad 10), .ref (ad 11), .ref (ad 12), .ref (ad 13), .ref (ad 14), .ref (ad 15), .ref (ad 16), .int (sc 17), .ref (ad 18), .ref (ad 19), .ref (ad 20), .ref (ad 21), .ref (ad 22), .ref (ad 23)] x H1 := hO1
    have hF := hF.put hz1 hq1 (fun _ => ⟨by rw [hM.2.1.1], by rw [hM.2.1.1]; exact Nat.zero_le _⟩)
    have hM := hM.put (sc' := (upd sc 0 0)) hO hq1
    have hI : MI (upd sc 0 0) ar h0 h1 fx ts B := hI
    refine lv_iconst (v := 0) hx hb dX5_press_16 (by decide) ?_
    refine lv_istore_n (lv' := [(2, .int 0), (0, .ref x), (1, .int d)]) hx hb dX5_press_17 rfl hl (by decide) rfl (fun ls hl => ?_)
    refine lv_iconst (v := 0) hx hb dX5_press_18 (by decide) ?_
    refine lv_istore_n (lv' := [(3, .int 0), (2, .int 0), (0, .ref x), (1, .int d)]) hx hb dX5_press_19 rfl hl (by decide) rfl (fun ls hl => ?_)
    obtain ⟨nd, hnd, ed⟩ := inB_nI (n := 3000) c3
    subst ed
    obtain ⟨PZ, hPZ⟩ : ∃ z, z = (prs h0 h1 (nI nd) ts) := ⟨_, rfl⟩
    rw [← hPZ] at hB9
    rw [← hPZ]
    have hJ0 : MO E ow x h0 h1 fx ts (B ++ []) 0 H H1 := by rw [List.append_nil]; exact ⟨⟨(upd sc 0 0), ad, ar, hM, hI, rfl⟩, hF, by omega⟩
    have loop : ∀ (r i : Nat) (P : PS) (G : Heap) (locs : List Loc) (ls : Array Slot), i + r = ts.length → pou h0 h1 (nI nd) ts.length r i P = PZ → (P.1.length = ts.length ∧ SV h0 h1 fx P.1 ∧ P.2.2.2.length = 2 * P.2.2.1 ∧ MO E ow x h0 h1 fx P.1 (B ++ P.2.2.2) 0 H G) → EV E s G → va_S (fr E) s.heap G locs → lv_has ls 6 [(3, .int (nI i)), (2, .int P.2.1), (0, .ref x), (1, .int (nI nd))] → W p (eL E) e (rmk 6 0 0) s m ([.ref x, .int (nI nd)]).toArray below meth co G locs 0 0 (MQ below (CQ E (o1 (some (.int (if cdDay (nI nd) = 0 then PZ.2.1 else 0))) (fun H' => (¬ cdDay (nI nd) = 0 ∧ MO E ow x h0 h1 fx ts B (cdDay (nI nd)) H H') ∨ (cdDay (nI nd) = 0 ∧ MO E ow x h0 h1 fx PZ.1 (B ++ PZ.2.2.2) 0 H H')))) ([.ref x, .int (nI nd)]).toArray s 0 0 (fr E)) (F0 m 20 ls []) := by
      intro r
      induction r with
      | zero =>
        intro i P G locs ls hi hpf hJ hE hS hl
        obtain ⟨hln, hVP, hBl, hw, hFg, hzg⟩ := id hJ
        obtain ⟨sc, ad, ar, hM, hI, hc0⟩ := hw
        have hO := hM.1.1
        have hn6 := hI.2.2.2.2.1
        rw [hln] at hn6
        have hpf : P = PZ := hpf
        refine lv_iload_n hx hb dX5_press_20 rfl (lv_at hl 0 rfl) ?_
        refine lv_aload_n hx hb dX5_press_21 rfl (lv_at hl 2 rfl) ?_
        refine gf hx hb hts hown hE lkX5_79 hO rfl dX5_press_22 ?_
        refine lv_icmp_ge (tgt := 139) hx hb dX5_press_25 (by decide) (fun c9 => ?_) (fun c9 => ?_)
        rotate_left
        · exact absurd (by rw [hn6]; exact nI_le (by omega) (by omega)) c9
        refine lv_iload_n hx hb dX5_press_139 rfl (lv_at hl 1 rfl) ?_
        exact cI hx hb hr hlk hB hS (by omega) (by omega) (⟨by rw [if_pos hcd, hpf], Or.inr ⟨hcd, by rw [← hpf]; exact hJ.2.2.2⟩⟩) dX5_press_140
      | succ r ih =>
        intro i P G locs ls hi hpf hJ hE hS hl
        have hlt : i < ts.length := by omega
        obtain ⟨hln, hVP, hBl, hw, hFg, hzg⟩ := id hJ
        obtain ⟨sc, ad, ar, hM, hI, hc0⟩ := hw
        have hO := hM.1.1
        have hn6 := hI.2.2.2.2.1
        rw [hln] at hn6
        refine lv_iload_n hx hb dX5_press_20 rfl (lv_at hl 0 rfl) ?_
        refine lv_aload_n hx hb dX5_press_21 rfl (lv_at hl 2 rfl) ?_
        refine gf hx hb hts hown hE lkX5_79 hO rfl dX5_press_22 ?_
        refine lv_icmp_ge (tgt := 139) hx hb dX5_press_25 (by decide) (fun c9 => ?_) (fun c9 => ?_)
        · exact absurd c9 (by rw [hn6]; exact nI_ge hlt (by omega))
        refine lv_aload_n hx hb dX5_press_28 rfl (lv_at hl 2 rfl) ?_
        refine gf hx hb hts hown hE lkX5_71 hO rfl dX5_press_29 ?_
        refine lv_if_ne (tgt := 139) hx hb dX5_press_32 (by decide) (fun c8 => ?_) (fun c8 => ?_)
        · exact absurd (by rw [hc0]; decide) c8
        refine lv_iload_n hx hb dX5_press_35 rfl (lv_at hl 0 rfl) ?_
        refine lv_iconst (v := 1) hx hb dX5_press_36 (by decide) ?_
        refine lv_iadd hx hb dX5_press_37 ?_
        rw [nI_1 i]
        refine lv_istore (lv' := [(4, .int (nI (i + 1))), (3, .int (nI i)), (2, .int P.2.1), (0, .ref x), (1, .int (nI nd))]) hx hb dX5_press_38 hl (by decide) rfl (fun ls hl => ?_)
        have hpf2 : pou h0 h1 (nI nd) ts.length r (i + 1) (pin h0 h1 (nI nd) i (ts.length - (i + 1)) (i + 1) P) = PZ := hpf
        generalize hPE : pin h0 h1 (nI nd) i (ts.length - (i + 1)) (i + 1) P = PE at hpf2
        have hcE : PE.2.2.1 ≤ PZ.2.2.1 := by rw [← hpf2]; exact pou_mono h0 h1 (nI nd) ts.length r (i + 1) PE
        clear hpf hn6 hO hI hM hzg hFg hc0 hVP hBl hln
        have loop2 : ∀ (u j : Nat) (P : PS) (G : Heap) (locs : List Loc) (ls : Array Slot), i < j → j + u = ts.length → pin h0 h1 (nI nd) i u j P = PE → (P.1.length = ts.length ∧ SV h0 h1 fx P.1 ∧ P.2.2.2.length = 2 * P.2.2.1 ∧ MO E ow x h0 h1 fx P.1 (B ++ P.2.2.2) 0 H G) → EV E s G → va_S (fr E) s.heap G locs → lv_has ls 6 [(4, .int (nI j)), (3, .int (nI i)), (2, .int P.2.1), (0, .ref x), (1, .int (nI nd))] → W p (eL E) e (rmk 6 0 0) s m ([.ref x, .int (nI nd)]).toArray below meth co G locs 0 0 (MQ below (CQ E (o1 (some (.int (if cdDay (nI nd) = 0 then PZ.2.1 else 0))) (fun H' => (¬ cdDay (nI nd) = 0 ∧ MO E ow x h0 h1 fx ts B (cdDay (nI nd)) H H') ∨ (cdDay (nI nd) = 0 ∧ MO E ow x h0 h1 fx PZ.1 (B ++ PZ.2.2.2) 0 H H')))) ([.ref x, .int (nI nd)]).toArray s 0 0 (fr E)) (F0 m 40 ls []) := by
          intro u
          induction u with
          | zero =>
            intro j P G locs ls hij hj hpe hJ hE hS hl
            obtain ⟨hln, hVP, hBl, hw, hFg, hzg⟩ := id hJ
            obtain ⟨sc, ad, ar, hM, hI, hc0⟩ := hw
            have hO := hM.1.1
            have hn6 := hI.2.2.2.2.1
            rw [hln] at hn6
            have hpe : P = PE := hpe
            refine lv_iload hx hb dX5_press_40 (lv_at hl 0 rfl) ?_
            refine lv_aload_n hx hb dX5_press_42 rfl (lv_at hl 3 rfl) ?_
            refine gf hx hb hts hown hE lkX5_79 hO rfl dX5_press_43 ?_
            refine lv_icmp_ge (tgt := 133) hx hb dX5_press_46 (by decide) (fun c7 => ?_) (fun c7 => ?_)
            rotate_left
            · exact absurd (by rw [hn6]; exact nI_le (by omega) (by omega)) c7
            refine lv_iinc (v := nI (i + 1)) (lv' := [(3, .int (nI (i + 1))), (4, .int (nI j)), (2, .int P.2.1), (0, .ref x), (1, .int (nI nd))]) hx hb dX5_press_133 hl (k := 1) rfl (nI_1 i) (by decide) rfl (fun ls hl => ?_)
            refine lv_goto (tgt := 20) hx hb dX5_press_136 (by decide) ?_
            exact ih (i + 1) P G locs ls (by omega) (by rw [hpe]; exact hpf2) hJ hE hS (lv_sub hl [0, 2, 3, 4] rfl)
          | succ u ih2 =>
            intro j P G locs ls hij hj hpe hJ hE hS hl
            obtain ⟨hln, hVP, hBl, hw, hFg, hzg⟩ := id hJ
            obtain ⟨sc, ad, ar, hM, hI, hc0⟩ := hw
            have hO := hM.1.1
            have hn6 := hI.2.2.2.2.1
            rw [hln] at hn6
            have hjl : j < ts.length := by omega
            obtain ⟨tr, ht⟩ := getq (l := P.1) (i := i) (by omega)
            obtain ⟨ur, hu⟩ := getq (l := P.1) (i := j) (by omega)
            have hpe2 : pin h0 h1 (nI nd) i u (j + 1) (pst h0 h1 (nI nd) i j P) = PE := hpe
            have hcS : (pst h0 h1 (nI nd) i j P).2.2.1 ≤ PE.2.2.1 := by rw [← hpe2]; exact pin_mono h0 h1 (nI nd) i u (j + 1) _
            have hst := pst_at (h0 := h0) (h1 := h1) (day := nI nd) ht hu
            refine lv_iload hx hb dX5_press_40 (lv_at hl 0 rfl) ?_
            refine lv_aload_n hx hb dX5_press_42 rfl (lv_at hl 3 rfl) ?_
            refine gf hx hb hts hown hE lkX5_79 hO rfl dX5_press_43 ?_
            refine lv_icmp_ge (tgt := 133) hx hb dX5_press_46 (by decide) (fun c7 => ?_) (fun c7 => ?_)
            · exact absurd c7 (by rw [hn6]; exact nI_ge hjl (by omega))
            refine lv_aload_n hx hb dX5_press_49 rfl (lv_at hl 3 rfl) ?_
            refine lv_iload_n hx hb dX5_press_50 rfl (lv_at hl 1 rfl) ?_
            refine pV hx hb hml hts hown hE kwX5_118 (c_mrest E x sc ad ar h0 h1 fx P.1 (B ++ P.2.2.2) i tr G hM.1 hI hVP ht) hO rfl (Nat.le_of_ble_eq_true rfl) rfl hl.1 rfl (Nat.le_of_ble_eq_true rfl) (by omega) (by omega) dX5_press_51 ?_
            refine lv_aload_n hx hb dX5_press_54 rfl (lv_at hl 3 rfl) ?_
            refine lv_iload hx hb dX5_press_55 (lv_at hl 0 rfl) ?_
            refine pV hx hb hml hts hown hE kwX5_118 (c_mrest E x sc ad ar h0 h1 fx P.1 (B ++ P.2.2.2) j ur G hM.1 hI hVP hu) hO rfl (Nat.le_of_ble_eq_true rfl) rfl hl.1 rfl (Nat.le_of_ble_eq_true rfl) (by omega) (by omega) dX5_press_57 ?_
            have tail : ∀ (ls : Array Slot), lv_has ls 6 [(5, .int (mnR tr ur)), (4, .int (nI j)), (3, .int (nI i)), (2, .int P.2.1), (0, .ref x), (1, .int (nI nd))] → W p (eL E) e (rmk 6 0 0) s m ([.ref x, .int (nI nd)]).toArray below meth co G locs 0 0 (MQ below (CQ E (o1 (some (.int (if cdDay (nI nd) = 0 then PZ.2.1 else 0))) (fun H' => (¬ cdDay (nI nd) = 0 ∧ MO E ow x h0 h1 fx ts B (cdDay (nI nd)) H H') ∨ (cdDay (nI nd) = 0 ∧ MO E ow x h0 h1 fx PZ.1 (B ++ PZ.2.2.2) 0 H H')))) ([.ref x, .int (nI nd)]).toArray s 0 0 (fr E)) (F0 m 79 ls []) := by
              intro ls hl
              refine lv_iload hx hb dX5_press_79 (lv_at hl 0 rfl) ?_
              refine lv_if_le (tgt := 127) hx hb dX5_press_81 (by decide) (fun k1 => ?_) (fun k1 => ?_)
              · have k2 : decide (0 < mnR tr ur) = false := decide_eq_false (Int32.not_lt.mpr k1)
                have hpr : prD h0 h1 (nI nd) tr ur = false := by unfold prD; rw [k2]; simp
                rw [hpr] at hst
                have hst : pst h0 h1 (nI nd) i j P = P := hst
                rw [hst] at hpe2
                refine lv_iinc (v := nI (j + 1)) (lv' := [(4, .int (nI (j + 1))), (5, .int (mnR tr ur)), (3, .int (nI i)), (2, .int P.2.1), (0, .ref x), (1, .int (nI nd))]) hx hb dX5_press_127 hl (k := 1) rfl (nI_1 j) (by decide) rfl (fun ls hl => ?_)
                refine lv_goto (tgt := 40) hx hb dX5_press_130 (by decide) ?_
                exact ih2 (j + 1) P G locs ls (by omega) (by omega) hpe2 hJ hE hS (lv_sub hl [0, 2, 3, 4, 5] rfl)
              · have k2 : decide (0 < mnR tr ur) = true := decide_eq_true (Int32.not_le.mp k1)
                refine lv_aload_n hx hb dX5_press_84 rfl (lv_at hl 4 rfl) ?_
                refine lv_iload_n hx hb dX5_press_85 rfl (lv_at hl 2 rfl) ?_
                refine lv_iload hx hb dX5_press_86 (lv_at hl 1 rfl) ?_
                refine pV hx hb hml hts hown hE kwX5_131 (c_like E x sc ad ar h0 h1 fx P.1 (B ++ P.2.2.2) i j tr ur G hM.1 hI hVP ht hu) hO rfl (Nat.le_of_ble_eq_true rfl) rfl hl.1 rfl (Nat.le_of_ble_eq_true rfl) (by omega) (by omega) dX5_press_88 ?_
                cases k3 : fitS tr.1 ur.1 with
                | false =>
                  refine lv_if_eq (tgt := 127) hx hb dX5_press_91 (by decide) (fun k4 => ?_) (fun k4 => ?_)
                  rotate_left
                  · exact absurd (by decide) k4
                  have hpr : prD h0 h1 (nI nd) tr ur = false := by unfold prD; rw [k3]; simp
                  rw [hpr] at hst
                  have hst : pst h0 h1 (nI nd) i j P = P := hst
                  rw [hst] at hpe2
                  refine lv_iinc (v := nI (j + 1)) (lv' := [(4, .int (nI (j + 1))), (5, .int (mnR tr ur)), (3, .int (nI i)), (2, .int P.2.1), (0, .ref x), (1, .int (nI nd))]) hx hb dX5_press_127 hl (k := 1) rfl (nI_1 j) (by decide) rfl (fun ls hl => ?_)
                  refine lv_goto (tgt := 40) hx hb dX5_press_130 (by decide) ?_
                  exact ih2 (j + 1) P G locs ls (by omega) (by omega) hpe2 hJ hE hS (lv_sub hl [0, 2, 3, 4, 5] rfl)
                | true =>
                  refine lv_if_eq (tgt := 127) hx hb dX5_press_91 (by decide) (fun k4 => ?_) (fun k4 => ?_)
                  · exact absurd k4 (by decide)
                  refine lv_aload_n hx hb dX5_press_94 rfl (lv_at hl 4 rfl) ?_
                  refine lv_iload_n hx hb dX5_press_95 rfl (lv_at hl 2 rfl) ?_
                  refine lv_iload hx hb dX5_press_96 (lv_at hl 1 rfl) ?_
                  refine lv_iload_n hx hb dX5_press_98 rfl (lv_at hl 5 rfl) ?_
                  refine pV hx hb hml hts hown hE kwX5_135 (c_one E x sc ad ar h0 h1 fx P.1 (B ++ P.2.2.2) i j tr ur (nI nd) G hM.1 hI hVP ht hu) hO rfl (Nat.le_of_ble_eq_true rfl) rfl hl.1 rfl (Nat.le_of_ble_eq_true rfl) (by omega) (by omega) dX5_press_99 ?_
                  rw [show (tr.1 6).toNatClampNeg = np tr from rfl]
                  cases k5 : smeS tr.1 ur.1 tr.2.2 ur.2.2 (bfC h0 h1 tr.1) (nI nd) (np tr) with
                  | false =>
                    refine lv_if_eq (tgt := 127) hx hb dX5_press_102 (by decide) (fun k6 => ?_) (fun k6 => ?_)
                    rotate_left
                    · exact absurd (by decide) k6
                    have hpr : prD h0 h1 (nI nd) tr ur = false := by unfold prD; rw [k3, k5]; simp
                    rw [hpr] at hst
                    have hst : pst h0 h1 (nI nd) i j P = P := hst
                    rw [hst] at hpe2
                    refine lv_iinc (v := nI (j + 1)) (lv' := [(4, .int (nI (j + 1))), (5, .int (mnR tr ur)), (3, .int (nI i)), (2, .int P.2.1), (0, .ref x), (1, .int (nI nd))]) hx hb dX5_press_127 hl (k := 1) rfl (nI_1 j) (by decide) rfl (fun ls hl => ?_)
                    refine lv_goto (tgt := 40) hx hb dX5_press_130 (by decide) ?_
                    exact ih2 (j + 1) P G locs ls (by omega) (by omega) hpe2 hJ hE hS (lv_sub hl [0, 2, 3, 4, 5] rfl)
                  | true =>
                    refine lv_if_eq (tgt := 127) hx hb dX5_press_102 (by decide) (fun k6 => ?_) (fun k6 => ?_)
                    · exact absurd k6 (by decide)
                    have hpr : prD h0 h1 (nI nd) tr ur = true := by unfold prD; rw [k3, k5, k2]; rfl
                    rw [hpr] at hst
                    have hst : pst h0 h1 (nI nd) i j P = ((P.1.set i (brT tr (nI nd) (mnR tr ur))).set j (brT ur (nI nd) (mnR tr ur)), P.2.1 + mnR tr ur, P.2.2.1 + 1, P.2.2.2 ++ [(nI i, nI nd, mnR tr ur), (nI j, nI nd, mnR tr ur)]) := hst
                    have hcn : P.2.2.1 + 1 ≤ PE.2.2.1 := by rw [hst] at hcS; exact hcS
                    refine lv_aload_n hx hb dX5_press_105 rfl (lv_at hl 4 rfl) ?_
                    refine lv_iload_n hx hb dX5_press_106 rfl (lv_at hl 2 rfl) ?_
                    refine lv_iload_n hx hb dX5_press_107 rfl (lv_at hl 5 rfl) ?_
                    refine lv_iload hx hb dX5_press_108 (lv_at hl 0 rfl) ?_
                    refine gVU hx hb hml hts hown hB hE hS kwX5_121 (c_mbreaks E ow x sc ad ar h0 h1 fx P.1 (B ++ P.2.2.2) i tr (nI nd) (mnR tr ur) 0 G hM hI hVP hc0 ht (by rw [List.length_append]; omega)) hO rfl (Nat.le_of_ble_eq_true rfl) rfl hl.1 rfl (Nat.le_of_ble_eq_true rfl) (by omega) (by omega) dX5_press_110 (fun H2 L2 hG hz2 hE hS => ?_)
                    obtain ⟨⟨sc2, ad2, ar2, hM2, hI2, hc2⟩, hF2, hz8⟩ := hG
                    have hO := hM2.1.1
                    have hu2 : (P.1.set i (brT tr (nI nd) (mnR tr ur)))[j]? = some ur := by rw [List.getElem?_set_ne (by omega)]; exact hu
                    have hV2 := hVP.set (i := i) ((hVP.tv ht).brT hnd (mnR tr ur))
                    refine lv_aload_n hx hb dX5_press_113 rfl (lv_at hl 4 rfl) ?_
                    refine lv_iload hx hb dX5_press_114 (lv_at hl 1 rfl) ?_
                    refine lv_iload_n hx hb dX5_press_116 rfl (lv_at hl 5 rfl) ?_
                    refine lv_iload hx hb dX5_press_117 (lv_at hl 0 rfl) ?_
                    refine gVU hx hb hml hts hown hB hE hS kwX5_121 (c_mbreaks E ow x sc2 ad2 ar2 h0 h1 fx (P.1.set i (brT tr (nI nd) (mnR tr ur))) (B ++ P.2.2.2 ++ [(nI i, nI nd, mnR tr ur)]) j ur (nI nd) (mnR tr ur) 0 H2 hM2 hI2 hV2 hc2 hu2 (by rw [List.length_append, List.length_append]; show B.length + P.2.2.2.length + 1 < 9000; omega)) hO rfl (Nat.le_of_ble_eq_true rfl) rfl hl.1 rfl (Nat.le_of_ble_eq_true rfl) (by omega) (by omega) dX5_press_119 (fun H3 L3 hG hz3 hE hS => ?_)
                    obtain ⟨hw3, hF3, hz7⟩ := hG
                    have hJ2 : (pst h0 h1 (nI nd) i j P).1.length = ts.length ∧ SV h0 h1 fx (pst h0 h1 (nI nd) i j P).1 ∧ (pst h0 h1 (nI nd) i j P).2.2.2.length = 2 * (pst h0 h1 (nI nd) i j P).2.2.1 ∧ MO E ow x h0 h1 fx (pst h0 h1 (nI nd) i j P).1 (B ++ (pst h0 h1 (nI nd) i j P).2.2.2) 0 H H3 := by
                      rw [hst]
                      refine ⟨by show ((P.1.set i _).set j _).length = _; rw [List.length_set, List.length_set]; exact hln, hV2.set ((hVP.tv hu).brT hnd _), by show (P.2.2.2 ++ _).length = 2 * (P.2.2.1 + 1); rw [List.length_append, hBl]; rfl, ?_, (hFg.tr hF2 (fun _ _ h => h)).tr hF3 (fun _ _ h => h), by omega⟩
                      show MW E ow x h0 h1 fx _ (B ++ (P.2.2.2 ++ _)) 0 _
                      rw [show B ++ (P.2.2.2 ++ [(nI i, nI nd, mnR tr ur), (nI j, nI nd, mnR tr ur)]) = B ++ P.2.2.2 ++ [(nI i, nI nd, mnR tr ur)] ++ [(nI j, nI nd, mnR tr ur)] by simp]
                      exact hw3
                    have hsn : P.2.1 + mnR tr ur = (pst h0 h1 (nI nd) i j P).2.1 := by rw [hst]
                    refine lv_iload_n hx hb dX5_press_122 rfl (lv_at hl 3 rfl) ?_
                    refine lv_iload hx hb dX5_press_123 (lv_at hl 0 rfl) ?_
                    refine lv_iadd hx hb dX5_press_125 ?_
                    rw [hsn]
                    refine lv_istore_n (lv' := [(2, .int ((pst h0 h1 (nI nd) i j P).2.1)), (5, .int (mnR tr ur)), (4, .int (nI j)), (3, .int (nI i)), (0, .ref x), (1, .int (nI nd))]) hx hb dX5_press_126 rfl hl (by decide) rfl (fun ls hl => ?_)
                    refine lv_iinc (v := nI (j + 1)) (lv' := [(4, .int (nI (j + 1))), (2, .int ((pst h0 h1 (nI nd) i j P).2.1)), (5, .int (mnR tr ur)), (3, .int (nI i)), (0, .ref x), (1, .int (nI nd))]) hx hb dX5_press_127 hl (k := 2) rfl (nI_1 j) (by decide) rfl (fun ls hl => ?_)
                    refine lv_goto (tgt := 40) hx hb dX5_press_130 (by decide) ?_
                    exact ih2 (j + 1) (pst h0 h1 (nI nd) i j P) H3 L3 ls (by omega) (by omega) hpe2 hJ2 hE hS (lv_sub hl [0, 3, 1, 4, 5] rfl)
            refine lv_icmp_ge (tgt := 71) hx hb dX5_press_60 (by decide) (fun c5 => ?_) (fun c5 => ?_)
            · refine lv_aload_n hx hb dX5_press_71 rfl (lv_at hl 3 rfl) ?_
              refine lv_iload hx hb dX5_press_72 (lv_at hl 0 rfl) ?_
              refine pV hx hb hml hts hown hE kwX5_118 (c_mrest E x sc ad ar h0 h1 fx P.1 (B ++ P.2.2.2) j ur G hM.1 hI hVP hu) hO rfl (Nat.le_of_ble_eq_true rfl) rfl hl.1 rfl (Nat.le_of_ble_eq_true rfl) (by omega) (by omega) dX5_press_74 ?_
              rw [show rstS ur.1 ur.2.1 = mnR tr ur from (if_neg (Int32.not_lt.mpr c5)).symm]
              refine lv_istore (lv' := [(5, .int (mnR tr ur)), (4, .int (nI j)), (3, .int (nI i)), (2, .int P.2.1), (0, .ref x), (1, .int (nI nd))]) hx hb dX5_press_77 hl (by decide) rfl (fun ls hl => ?_)
              exact tail ls (lv_sub hl [0, 1, 2, 3, 4, 5] rfl)
            · refine lv_aload_n hx hb dX5_press_63 rfl (lv_at hl 3 rfl) ?_
              refine lv_iload_n hx hb dX5_press_64 rfl (lv_at hl 1 rfl) ?_
              refine pV hx hb hml hts hown hE kwX5_118 (c_mrest E x sc ad ar h0 h1 fx P.1 (B ++ P.2.2.2) i tr G hM.1 hI hVP ht) hO rfl (Nat.le_of_ble_eq_true rfl) rfl hl.1 rfl (Nat.le_of_ble_eq_true rfl) (by omega) (by omega) dX5_press_65 ?_
              rw [show rstS tr.1 tr.2.1 = mnR tr ur from (if_pos (Int32.not_le.mp c5)).symm]
              refine lv_goto (tgt := 77) hx hb dX5_press_68 (by decide) ?_
              refine lv_istore (lv' := [(5, .int (mnR tr ur)), (4, .int (nI j)), (3, .int (nI i)), (2, .int P.2.1), (0, .ref x), (1, .int (nI nd))]) hx hb dX5_press_77 hl (by decide) rfl (fun ls hl => ?_)
              exact tail ls (lv_sub hl [0, 1, 2, 3, 4, 5] rfl)
        exact loop2 (ts.length - (i + 1)) (i + 1) P G locs ls (by omega) (by omega) hPE hJ hE hS (lv_sub hl [0, 1, 2, 3, 4] rfl)
    exact loop ts.length 0 (ts, 0, 0, []) _ _ ls (by omega) hPZ.symm ⟨rfl, hV, rfl, hJ0⟩ hE hS (lv_sub hl [0, 1, 2, 3] rfl)
