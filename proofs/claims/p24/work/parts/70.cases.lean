/-! the law's cases -/
theorem nI_mul (a b : Nat) : nI a * nI b = nI (a * b) := (Int32.ofNat_mul a b).symm
theorem day0 (n : Nat) : (40 : Int32) * nI 0 + nI n = nI n := by
  rw [show (40 : Int32) = nI 40 from rfl, nI_mul, nI_add, show 40 * 0 + n = n by omega]
theorem day1 (n : Nat) : (40 : Int32) * nI 1 + nI n = nI (40 + n) := by
  rw [show (40 : Int32) = nI 40 from rfl, nI_mul, nI_add]
theorem rate_ok {j : Nat} (h : j < 900) : inB (nI j - 100) (-500) 2000 = true := by
  have h8 : (100 : Int32).toInt = 100 := by decide
  have e : (nI j - 100).toInt = (j : Int) - 100 := by
    rw [Int32.toInt_sub, nI_toInt (by omega), h8]
    exact Int.bmod_eq_of_le (by omega) (by omega)
  unfold inB
  rw [Bool.and_eq_true, decide_eq_true_eq, decide_eq_true_eq, Int32.le_iff_toInt_le, Int32.le_iff_toInt_le, e, show (-500 : Int32).toInt = -500 by decide, show (2000 : Int32).toInt = 2000 by decide]
  omega
theorem n_hol0 {E : ET} {ow : Nat → Nat × Nat} {x : Nat} {h0 h1 fx : Dy} {ts : List TR} {H : Heap} {d : Int32} (hX : XR E ow x h0 h1 fx ts H) (hV : SV h0 h1 fx ts) (hK : BL ts) (hcd : cdHol h0 h1 0 d = 0) : Con E yX4_holiday cX4_holiday 4 (some FieldType.int) 10 4 70 [.ref x, .int 0, .int d] H (o1 (some (.int (nI (h0.length + 1)))) (fun H' => XOut E ow x (h0 ++ [(d, 0)]) h1 fx ts H H')) := by
  have h := n_hol hX hV hK hcd
  rw [if_pos rfl, if_pos rfl, if_pos rfl] at h
  exact h
theorem n_hol1 {E : ET} {ow : Nat → Nat × Nat} {x : Nat} {h0 h1 fx : Dy} {ts : List TR} {H : Heap} {d : Int32} (hX : XR E ow x h0 h1 fx ts H) (hV : SV h0 h1 fx ts) (hK : BL ts) (hcd : cdHol h0 h1 1 d = 0) : Con E yX4_holiday cX4_holiday 4 (some FieldType.int) 10 4 70 [.ref x, .int 1, .int d] H (o1 (some (.int (nI (h1.length + 1)))) (fun H' => XOut E ow x h0 (h1 ++ [(d, 1)]) fx ts H H')) := by
  have hne : ¬ (1 : Int32) = 0 := by decide
  have h := n_hol hX hV hK hcd
  rw [if_neg hne, if_neg hne, if_neg hne] at h
  exact h
set_option maxRecDepth 100000 in
set_option maxHeartbeats 4000000 in
/-- a new trade -/
theorem lc_trade {p : Program} {e : Env} {s : State} {m : MethodId} {below : List Frame} {meth : Method} {c : Code} {Q : State → Prop} {b n tn : Nat} {E : ET} {x a2 a3 a4 a5 cells slots C S : Nat} {H : Heap} {locs : List Loc} {ls : Array Slot} {w : Int32} (hC : LX p s m c b E a2 a3 a4 a5 n C S) (hE : EV E s H) (hS : va_S (fr E) s.heap H locs) (hI : LI E x a2 a3 a4 a5 n tn cells slots C S H) (ht9 : tn < 10) (hl : lv_has ls 16 [(0, .ref b), (1, .ref x), (2, .ref a2), (3, .ref a3), (4, .ref a4), (5, .ref a5), (6, .int (nI tn)), (7, .int (nI n)), (9, .int w), (11, .int 1)])
    (kk : ∀ (H1 : Heap) (locs1 : List Loc) (cells1 slots1 tn1 : Nat) (ls1 : Array Slot), EV E s H1 → va_S (fr E) s.heap H1 locs1 → LI E x a2 a3 a4 a5 (n + 1) tn1 cells1 slots1 (C + 1500) (S + 7000) H1 → lv_has ls1 16 [(0, .ref b), (1, .ref x), (2, .ref a2), (3, .ref a3), (4, .ref a4), (5, .ref a5), (6, .int (nI tn1)), (7, .int (nI n)), (9, .int w), (11, .int 1)] → W p (eL E) e room_1 s m #[Value.ref b] below meth c H1 locs1 cells1 slots1 Q (F0 m 555 ls1 [])) : W p (eL E) e room_1 s m #[Value.ref b] below meth c H locs cells slots Q (F0 m 95 ls []) := by
  obtain ⟨hx, hb, hml, hown, hts, hBE, ⟨hg2, hg3, hg4, hg5⟩, hn44, hC9, hS9⟩ := hC
  obtain ⟨ow, h0, h1, fx, ts, pf, rf, hf, gf, hA, hGI, hlen, hcl, hsl⟩ := hI
  subst hlen
  have hB : eB E ≤ s.heap.size := Nat.le_of_eq hBE
  have hBF := hE.2.2.1
  have hV := hGI.1.1
  have htn := hV.tn
  have hzl := zc_le ts
  obtain ⟨hK, hK54⟩ := hGI.1.bl (by omega)
  refine lv_aload_n hx hb dL_law_95 rfl (lv_at hl 2 rfl) ?_
  refine lv_iload hx hb dL_law_96 (lv_at hl 6 rfl) ?_
  refine lv_iconst (v := 1) hx hb dL_law_98 (by decide) ?_
  refine lv_iload hx hb dL_law_99 (lv_at hl 8 rfl) ?_
  refine lv_bipush (v := 10) hx hb dL_law_101 (by decide) ?_
  refine lv_ishr hx hb dL_law_103 ?_
  refine lv_iconst (v := 5) hx hb dL_law_104 (by decide) ?_
  refine lpS hx hb hml hts hown hE kwL_52 (c_low E (w >>> (10 &&& 31)) 5 5 H rfl (by decide) (by decide)) (by decide) rfl hl.1 rfl (Nat.le_of_ble_eq_true rfl) (by omega) (by omega) dL_law_105 ?_
  obtain ⟨q1, eq1⟩ : ∃ z, z = lw (w >>> (10 &&& 31)) 5 := ⟨_, rfl⟩
  have hq1 : q1 < 5 := by rw [eq1]; exact lw_lt (by omega)
  rw [← eq1]
  clear eq1
  refine lv_iadd hx hb dL_law_108 ?_
  rw [show 1 + nI q1 = nI (1 + q1) from nI_add 1 q1]
  refine asI (j := ts.length) hx hb hE hS hA.2.1.1 hg2 rfl (by omega) (by decide) dL_law_109 (fun H1 L1 hO1 hz1 hq1 hE hS => ?_)
  have hA := hA.p2 hO1 hg2 hBF hq1
  refine lv_aload_n hx hb dL_law_110 rfl (lv_at hl 3 rfl) ?_
  refine lv_iload hx hb dL_law_111 (lv_at hl 6 rfl) ?_
  refine lv_iconst (v := 1) hx hb dL_law_113 (by decide) ?_
  refine lv_iload hx hb dL_law_114 (lv_at hl 8 rfl) ?_
  refine lv_bipush (v := 20) hx hb dL_law_116 (by decide) ?_
  refine lpS hx hb hml hts hown hE kwL_52 (c_low E w 20 20 H1 rfl (by decide) (by decide)) (by decide) rfl hl.1 rfl (Nat.le_of_ble_eq_true rfl) (by omega) (by omega) dL_law_118 ?_
  obtain ⟨l2, el2⟩ : ∃ z, z = lw w 20 := ⟨_, rfl⟩
  have hl2 : l2 < 20 := by rw [el2]; exact lw_lt (by omega)
  rw [← el2]
  clear el2
  refine lv_iadd hx hb dL_law_121 ?_
  rw [show 1 + nI l2 = nI (1 + l2) from nI_add 1 l2]
  refine asI (j := ts.length) hx hb hE hS hA.2.1.2.1 hg3 rfl (by omega) (by decide) dL_law_122 (fun H2 L2 hO2 hz2 hq2 hE hS => ?_)
  have hA := hA.p3 hO2 hg3 hBF hq2
  refine lv_aload_n hx hb dL_law_123 rfl (lv_at hl 1 rfl) ?_
  refine lv_iload hx hb dL_law_124 (lv_at hl 8 rfl) ?_
  refine lv_iconst (v := 5) hx hb dL_law_126 (by decide) ?_
  refine lv_ishr hx hb dL_law_127 ?_
  refine lv_iconst (v := 2) hx hb dL_law_128 (by decide) ?_
  refine lpS hx hb hml hts hown hE kwL_52 (c_low E (w >>> (5 &&& 31)) 2 2 H2 rfl (by decide) (by decide)) (by decide) rfl hl.1 rfl (Nat.le_of_ble_eq_true rfl) (by omega) (by omega) dL_law_129 ?_
  obtain ⟨p3, ep3⟩ : ∃ z, z = lw (w >>> (5 &&& 31)) 2 := ⟨_, rfl⟩
  have hp3 : p3 < 2 := by rw [ep3]; exact lw_lt (by omega)
  rw [← ep3]
  clear ep3
  refine lv_aload_n hx hb dL_law_132 rfl (lv_at hl 3 rfl) ?_
  refine lv_iload hx hb dL_law_133 (lv_at hl 6 rfl) ?_
  refine aI hx hb hE hA.2.1.2.1 rfl (by omega) (by decide) (upd_at _ _ _) dL_law_135 ?_
  refine lv_iload hx hb dL_law_136 (lv_at hl 6 rfl) ?_
  refine lv_iconst (v := 2) hx hb dL_law_138 (by decide) ?_
  refine lv_irem hx hb dL_law_139 (by decide) ?_
  refine lv_if_ne (tgt := 147) hx hb dL_law_140 (by decide) (fun cy => ?_) (fun cy => ?_)
  · refine lv_iconst (v := 0) hx hb dL_law_147 (by decide) ?_
    refine lv_sipush (v := 300) hx hb dL_law_148 (by decide) ?_
    refine lv_bipush (v := 7) hx hb dL_law_151 (by decide) ?_
    refine lv_iload hx hb dL_law_153 (lv_at hl 8 rfl) ?_
    refine lv_bipush (v := 7) hx hb dL_law_155 (by decide) ?_
    refine lv_ishr hx hb dL_law_157 ?_
    refine lv_iconst (v := 3) hx hb dL_law_158 (by decide) ?_
    refine lpS hx hb hml hts hown hE kwL_52 (c_low E (w >>> (7 &&& 31)) 3 3 H2 rfl (by decide) (by decide)) (by decide) rfl hl.1 rfl (Nat.le_of_ble_eq_true rfl) (by omega) (by omega) dL_law_159 ?_
    obtain ⟨f4, ef4⟩ : ∃ z, z = lw (w >>> (7 &&& 31)) 3 := ⟨_, rfl⟩
    have hf4 : f4 < 3 := by rw [ef4]; exact lw_lt (by omega)
    rw [← ef4]
    clear ef4
    refine lv_imul hx hb dL_law_162 ?_
    rw [show 7 * nI f4 = nI (7 * f4) from nI_mul 7 f4]
    refine lv_bipush (v := 30) hx hb dL_law_163 (by decide) ?_
    refine lv_aload_n hx hb dL_law_165 rfl (lv_at hl 2 rfl) ?_
    refine lv_iload hx hb dL_law_166 (lv_at hl 6 rfl) ?_
    refine aI hx hb hE hA.2.1.1 rfl (by omega) (by decide) (upd_at _ _ _) dL_law_168 ?_
    obtain ⟨hcd, hGn⟩ := GI.trd (j := p3) (l := 1 + l2) (f := 7 * f4) (q := 1 + q1) (py := 0) hGI (by decide) (by omega) (by omega) (by omega) (by omega) (by omega) (by omega) ht9
    have hzn := zc_app (mkT (nI p3) (nI (1 + l2)) 0 300 (nI (7 * f4)) 30 (nI (1 + q1)), [], []) ts
    refine lgV hx hb hml hts hown hB hE hS kwL_55 (n_trd (pa := nI p3) (lo := nI (1 + l2)) (py := 0) (fi := 300) (fs := nI (7 * f4)) (le := 30) (pe := nI (1 + q1)) hA.1 hV hK (by decide) hcd) hA.1.ob.choose_spec rfl (by decide) rfl hl.1 rfl (Nat.le_of_ble_eq_true rfl) (by omega) (by omega) dL_law_169 (fun H3 L3 hG hz3 hE hS => ?_)
    obtain ⟨ow, hA⟩ := hA.out hG
    refine lv_iload hx hb dL_law_172 (lv_at hl 6 rfl) ?_
    refine lv_icmp_ne (tgt := 181) hx hb dL_law_174 (by decide) (fun c5 => ?_) (fun c5 => ?_)
    · exact absurd rfl c5
    refine lv_iconst (v := 1) hx hb dL_law_177 (by decide) ?_
    refine lv_goto (tgt := 182) hx hb dL_law_178 (by decide) ?_
    refine lv_istore (lv' := [(11, .int 1), (0, .ref b), (1, .ref x), (2, .ref a2), (3, .ref a3), (4, .ref a4), (5, .ref a5), (6, .int (nI ts.length)), (7, .int (nI n)), (9, .int w)]) hx hb dL_law_182 hl (by decide) rfl (fun ls hl => ?_)
    refine lv_iinc (v := nI (ts.length + 1)) (lv' := [(6, .int (nI (ts.length + 1))), (11, .int 1), (0, .ref b), (1, .ref x), (2, .ref a2), (3, .ref a3), (4, .ref a4), (5, .ref a5), (7, .int (nI n)), (9, .int w)]) hx hb dL_law_184 hl (k := 7) rfl (nI_1 ts.length) (by decide) rfl (fun ls hl => ?_)
    refine lv_goto (tgt := 555) hx hb dL_law_187 (by decide) ?_
    exact kk H3 L3 _ _ _ ls hE hS ⟨ow, h0, h1, fx, (ts ++ [(mkT (nI p3) (nI (1 + l2)) 0 300 (nI (7 * f4)) 30 (nI (1 + q1)), [], [])]), (upd pf ts.length (nI (1 + q1))), (upd rf ts.length (nI (1 + l2))), hf, gf, hA, hGn, (List.length_append), by omega, by omega⟩ (lv_sub hl [2, 3, 4, 5, 6, 7, 0, 8, 9, 1] rfl)
  · refine lv_iconst (v := 1) hx hb dL_law_143 (by decide) ?_
    refine lv_goto (tgt := 148) hx hb dL_law_144 (by decide) ?_
    refine lv_sipush (v := 300) hx hb dL_law_148 (by decide) ?_
    refine lv_bipush (v := 7) hx hb dL_law_151 (by decide) ?_
    refine lv_iload hx hb dL_law_153 (lv_at hl 8 rfl) ?_
    refine lv_bipush (v := 7) hx hb dL_law_155 (by decide) ?_
    refine lv_ishr hx hb dL_law_157 ?_
    refine lv_iconst (v := 3) hx hb dL_law_158 (by decide) ?_
    refine lpS hx hb hml hts hown hE kwL_52 (c_low E (w >>> (7 &&& 31)) 3 3 H2 rfl (by decide) (by decide)) (by decide) rfl hl.1 rfl (Nat.le_of_ble_eq_true rfl) (by omega) (by omega) dL_law_159 ?_
    obtain ⟨f4, ef4⟩ : ∃ z, z = lw (w >>> (7 &&& 31)) 3 := ⟨_, rfl⟩
    have hf4 : f4 < 3 := by rw [ef4]; exact lw_lt (by omega)
    rw [← ef4]
    clear ef4
    refine lv_imul hx hb dL_law_162 ?_
    rw [show 7 * nI f4 = nI (7 * f4) from nI_mul 7 f4]
    refine lv_bipush (v := 30) hx hb dL_law_163 (by decide) ?_
    refine lv_aload_n hx hb dL_law_165 rfl (lv_at hl 2 rfl) ?_
    refine lv_iload hx hb dL_law_166 (lv_at hl 6 rfl) ?_
    refine aI hx hb hE hA.2.1.1 rfl (by omega) (by decide) (upd_at _ _ _) dL_law_168 ?_
    obtain ⟨hcd, hGn⟩ := GI.trd (j := p3) (l := 1 + l2) (f := 7 * f4) (q := 1 + q1) (py := 1) hGI (by decide) (by omega) (by omega) (by omega) (by omega) (by omega) (by omega) ht9
    have hzn := zc_app (mkT (nI p3) (nI (1 + l2)) 1 300 (nI (7 * f4)) 30 (nI (1 + q1)), [], []) ts
    refine lgV hx hb hml hts hown hB hE hS kwL_55 (n_trd (pa := nI p3) (lo := nI (1 + l2)) (py := 1) (fi := 300) (fs := nI (7 * f4)) (le := 30) (pe := nI (1 + q1)) hA.1 hV hK (by decide) hcd) hA.1.ob.choose_spec rfl (by decide) rfl hl.1 rfl (Nat.le_of_ble_eq_true rfl) (by omega) (by omega) dL_law_169 (fun H3 L3 hG hz3 hE hS => ?_)
    obtain ⟨ow, hA⟩ := hA.out hG
    refine lv_iload hx hb dL_law_172 (lv_at hl 6 rfl) ?_
    refine lv_icmp_ne (tgt := 181) hx hb dL_law_174 (by decide) (fun c5 => ?_) (fun c5 => ?_)
    · exact absurd rfl c5
    refine lv_iconst (v := 1) hx hb dL_law_177 (by decide) ?_
    refine lv_goto (tgt := 182) hx hb dL_law_178 (by decide) ?_
    refine lv_istore (lv' := [(11, .int 1), (0, .ref b), (1, .ref x), (2, .ref a2), (3, .ref a3), (4, .ref a4), (5, .ref a5), (6, .int (nI ts.length)), (7, .int (nI n)), (9, .int w)]) hx hb dL_law_182 hl (by decide) rfl (fun ls hl => ?_)
    refine lv_iinc (v := nI (ts.length + 1)) (lv' := [(6, .int (nI (ts.length + 1))), (11, .int 1), (0, .ref b), (1, .ref x), (2, .ref a2), (3, .ref a3), (4, .ref a4), (5, .ref a5), (7, .int (nI n)), (9, .int w)]) hx hb dL_law_184 hl (k := 7) rfl (nI_1 ts.length) (by decide) rfl (fun ls hl => ?_)
    refine lv_goto (tgt := 555) hx hb dL_law_187 (by decide) ?_
    exact kk H3 L3 _ _ _ ls hE hS ⟨ow, h0, h1, fx, (ts ++ [(mkT (nI p3) (nI (1 + l2)) 1 300 (nI (7 * f4)) 30 (nI (1 + q1)), [], [])]), (upd pf ts.length (nI (1 + q1))), (upd rf ts.length (nI (1 + l2))), hf, gf, hA, hGn, (List.length_append), by omega, by omega⟩ (lv_sub hl [2, 3, 4, 5, 6, 7, 0, 8, 9, 1] rfl)

set_option maxRecDepth 100000 in
set_option maxHeartbeats 4000000 in
/-- a handover -/
theorem lc_hand {p : Program} {e : Env} {s : State} {m : MethodId} {below : List Frame} {meth : Method} {c : Code} {Q : State → Prop} {b n tn : Nat} {E : ET} {x a2 a3 a4 a5 cells slots C S : Nat} {H : Heap} {locs : List Loc} {ls : Array Slot} {w : Int32} (hC : LX p s m c b E a2 a3 a4 a5 n C S) (hE : EV E s H) (hS : va_S (fr E) s.heap H locs) (hI : LI E x a2 a3 a4 a5 n tn cells slots C S H) (htp : 0 < tn) (hl : lv_has ls 16 [(0, .ref b), (1, .ref x), (2, .ref a2), (3, .ref a3), (4, .ref a4), (5, .ref a5), (6, .int (nI tn)), (7, .int (nI n)), (9, .int w), (11, .int 1)])
    (kk : ∀ (H1 : Heap) (locs1 : List Loc) (cells1 slots1 tn1 : Nat) (ls1 : Array Slot), EV E s H1 → va_S (fr E) s.heap H1 locs1 → LI E x a2 a3 a4 a5 (n + 1) tn1 cells1 slots1 (C + 1500) (S + 7000) H1 → lv_has ls1 16 [(0, .ref b), (1, .ref x), (2, .ref a2), (3, .ref a3), (4, .ref a4), (5, .ref a5), (6, .int (nI tn1)), (7, .int (nI n)), (9, .int w), (11, .int 1)] → W p (eL E) e room_1 s m #[Value.ref b] below meth c H1 locs1 cells1 slots1 Q (F0 m 555 ls1 [])) : W p (eL E) e room_1 s m #[Value.ref b] below meth c H locs cells slots Q (F0 m 196 ls []) := by
  obtain ⟨hx, hb, hml, hown, hts, hBE, ⟨hg2, hg3, hg4, hg5⟩, hn44, hC9, hS9⟩ := hC
  obtain ⟨ow, h0, h1, fx, ts, pf, rf, hf, gf, hA, hGI, hlen, hcl, hsl⟩ := hI
  subst hlen
  have hB : eB E ≤ s.heap.size := Nat.le_of_eq hBE
  have hBF := hE.2.2.1
  have hV := hGI.1.1
  have htn := hV.tn
  have hzl := zc_le ts
  obtain ⟨hK, hK54⟩ := hGI.1.bl (by omega)
  refine lv_iload hx hb dL_law_196 (lv_at hl 8 rfl) ?_
  refine lv_iload hx hb dL_law_198 (lv_at hl 6 rfl) ?_
  refine lpS hx hb hml hts hown hE kwL_52 (c_low E w (nI ts.length) ts.length H rfl (by omega) (by omega)) (by decide) rfl hl.1 rfl (Nat.le_of_ble_eq_true rfl) (by omega) (by omega) dL_law_200 ?_
  obtain ⟨t0, et0⟩ : ∃ z, z = lw w ts.length := ⟨_, rfl⟩
  have ht0 : t0 < ts.length := by rw [et0]; exact lw_lt (by omega)
  rw [← et0]
  clear et0
  obtain ⟨tr, ht⟩ := getq ht0
  obtain ⟨tp1, tp2, tp3⟩ := hGI.1.2.1 t0 tr ht
  have hT := hV.tv ht
  obtain ⟨n6, n1, n10⟩ := hT.n
  have hhl : tr.2.2.length ≤ 10 := by obtain ⟨_, _, _, _, _, -, -, -, -, -, -, -, -, -, -, -, -, -, -, -, -, -, q9⟩ := hT; exact q9
  refine lv_istore (lv' := [(12, .int (nI t0)), (0, .ref b), (1, .ref x), (2, .ref a2), (3, .ref a3), (4, .ref a4), (5, .ref a5), (6, .int (nI ts.length)), (7, .int (nI n)), (9, .int w), (11, .int 1)]) hx hb dL_law_203 hl (by decide) rfl (fun ls hl => ?_)
  refine lv_aload hx hb dL_law_205 (lv_at hl 5 rfl) ?_
  refine lv_iload hx hb dL_law_207 (lv_at hl 0 rfl) ?_
  refine aI hx hb hE hA.2.1.2.2.1 rfl (by omega) (by decide) tp3 dL_law_209 ?_
  refine lv_bipush (v := 10) hx hb dL_law_210 (by decide) ?_
  refine lv_icmp_ge (tgt := 250) hx hb dL_law_212 (by decide) (fun c1 => ?_) (fun c1 => ?_)
  · refine lv_goto (tgt := 555) hx hb dL_law_250 (by decide) ?_
    exact kk H locs _ _ _ ls hE hS ⟨ow, h0, h1, fx, ts, pf, rf, hf, gf, hA, hGI.up, rfl, by omega, by omega⟩ (lv_sub hl [1, 2, 3, 4, 5, 6, 7, 8, 9, 10] rfl)
  · have hh : tr.2.2.length < 10 := by rcases Nat.lt_or_ge tr.2.2.length 10 with q9 | q9; exact q9; exact absurd (nI_le (a := 10) q9 (by omega)) c1
    refine lv_aload hx hb dL_law_215 (lv_at hl 5 rfl) ?_
    refine lv_iload hx hb dL_law_217 (lv_at hl 0 rfl) ?_
    refine lv_dup2_11 hx hb dL_law_219 rfl rfl ?_
    refine aI hx hb hE hA.2.1.2.2.1 rfl (by omega) (by decide) tp3 dL_law_220 ?_
    refine lv_iconst (v := 1) hx hb dL_law_221 (by decide) ?_
    refine lv_iadd hx hb dL_law_222 ?_
    rw [show nI tr.2.2.length + 1 = nI (tr.2.2.length + 1) from nI_1 _]
    refine asI (j := t0) hx hb hE hS hA.2.1.2.2.1 hg4 rfl (by omega) (by decide) dL_law_223 (fun H1 L1 hO1 hz1 hq1 hE hS => ?_)
    have hA := hA.p4 hO1 hg4 hBF hq1
    refine lv_aload_n hx hb dL_law_224 rfl (lv_at hl 2 rfl) ?_
    refine lv_iload hx hb dL_law_225 (lv_at hl 0 rfl) ?_
    refine lv_iload hx hb dL_law_227 (lv_at hl 9 rfl) ?_
    refine lv_iconst (v := 4) hx hb dL_law_229 (by decide) ?_
    refine lv_ishr hx hb dL_law_230 ?_
    refine lv_sipush (v := 200) hx hb dL_law_231 (by decide) ?_
    refine lpS hx hb hml hts hown hE kwL_52 (c_low E (w >>> (4 &&& 31)) 200 200 H1 rfl (by decide) (by decide)) (by decide) rfl hl.1 rfl (Nat.le_of_ble_eq_true rfl) (by omega) (by omega) dL_law_234 ?_
    obtain ⟨d1, ed1⟩ : ∃ z, z = lw (w >>> (4 &&& 31)) 200 := ⟨_, rfl⟩
    have hd1 : d1 < 200 := by rw [ed1]; exact lw_lt (by omega)
    rw [← ed1]
    clear ed1
    refine lv_iload hx hb dL_law_237 (lv_at hl 9 rfl) ?_
    refine lv_bipush (v := 12) hx hb dL_law_239 (by decide) ?_
    refine lv_ishr hx hb dL_law_241 ?_
    refine lv_iconst (v := 2) hx hb dL_law_242 (by decide) ?_
    refine lpS hx hb hml hts hown hE kwL_52 (c_low E (w >>> (12 &&& 31)) 2 2 H1 rfl (by decide) (by decide)) (by decide) rfl hl.1 rfl (Nat.le_of_ble_eq_true rfl) (by omega) (by omega) dL_law_243 ?_
    obtain ⟨j1, ej1⟩ : ∃ z, z = lw (w >>> (12 &&& 31)) 2 := ⟨_, rfl⟩
    have hj1 : j1 < 2 := by rw [ej1]; exact lw_lt (by omega)
    rw [← ej1]
    clear ej1
    obtain ⟨hcd, hGn, hzn⟩ := GI.hnd (d := d1) (j := j1) hGI ht (by omega) hj1 hh
    refine lgV hx hb hml hts hown hB hE hS kwL_59 (n_hnd hA.1 hV hK ht hcd) hA.1.ob.choose_spec rfl (by decide) rfl hl.1 rfl (Nat.le_of_ble_eq_true rfl) (by omega) (by omega) dL_law_246 (fun H2 L2 hG hz2 hE hS => ?_)
    obtain ⟨ow, hA⟩ := hA.out hG
    refine lv_pop hx hb dL_law_249 rfl ?_
    refine lv_goto (tgt := 555) hx hb dL_law_250 (by decide) ?_
    exact kk H2 L2 _ _ _ ls hE hS ⟨ow, h0, h1, fx, (ts.set t0 (tr.1, tr.2.1, tr.2.2 ++ [(nI d1, nI j1)])), pf, rf, (upd hf t0 (nI (tr.2.2.length + 1))), gf, hA, hGn, List.length_set, by omega, by omega⟩ (lv_sub hl [1, 2, 3, 4, 5, 6, 7, 8, 9, 10] rfl)

set_option maxRecDepth 100000 in
set_option maxHeartbeats 4000000 in
/-- a fixing -/
theorem lc_fix {p : Program} {e : Env} {s : State} {m : MethodId} {below : List Frame} {meth : Method} {c : Code} {Q : State → Prop} {b n tn : Nat} {E : ET} {x a2 a3 a4 a5 cells slots C S : Nat} {H : Heap} {locs : List Loc} {ls : Array Slot} {w : Int32} (hC : LX p s m c b E a2 a3 a4 a5 n C S) (hE : EV E s H) (hS : va_S (fr E) s.heap H locs) (hI : LI E x a2 a3 a4 a5 n tn cells slots C S H) (hl : lv_has ls 16 [(0, .ref b), (1, .ref x), (2, .ref a2), (3, .ref a3), (4, .ref a4), (5, .ref a5), (6, .int (nI tn)), (7, .int (nI n)), (9, .int w), (11, .int 1)])
    (kk : ∀ (H1 : Heap) (locs1 : List Loc) (cells1 slots1 tn1 : Nat) (ls1 : Array Slot), EV E s H1 → va_S (fr E) s.heap H1 locs1 → LI E x a2 a3 a4 a5 (n + 1) tn1 cells1 slots1 (C + 1500) (S + 7000) H1 → lv_has ls1 16 [(0, .ref b), (1, .ref x), (2, .ref a2), (3, .ref a3), (4, .ref a4), (5, .ref a5), (6, .int (nI tn1)), (7, .int (nI n)), (9, .int w), (11, .int 1)] → W p (eL E) e room_1 s m #[Value.ref b] below meth c H1 locs1 cells1 slots1 Q (F0 m 555 ls1 [])) : W p (eL E) e room_1 s m #[Value.ref b] below meth c H locs cells slots Q (F0 m 260 ls []) := by
  obtain ⟨hx, hb, hml, hown, hts, hBE, ⟨hg2, hg3, hg4, hg5⟩, hn44, hC9, hS9⟩ := hC
  obtain ⟨ow, h0, h1, fx, ts, pf, rf, hf, gf, hA, hGI, hlen, hcl, hsl⟩ := hI
  subst hlen
  have hB : eB E ≤ s.heap.size := Nat.le_of_eq hBE
  have hBF := hE.2.2.1
  have hV := hGI.1.1
  have htn := hV.tn
  have hzl := zc_le ts
  obtain ⟨hK, hK54⟩ := hGI.1.bl (by omega)
  refine lv_aload_n hx hb dL_law_260 rfl (lv_at hl 1 rfl) ?_
  refine lv_iload hx hb dL_law_261 (lv_at hl 8 rfl) ?_
  refine lv_sipush (v := 200) hx hb dL_law_263 (by decide) ?_
  refine lpS hx hb hml hts hown hE kwL_52 (c_low E w 200 200 H rfl (by decide) (by decide)) (by decide) rfl hl.1 rfl (Nat.le_of_ble_eq_true rfl) (by omega) (by omega) dL_law_266 ?_
  obtain ⟨d1, ed1⟩ : ∃ z, z = lw w 200 := ⟨_, rfl⟩
  have hd1 : d1 < 200 := by rw [ed1]; exact lw_lt (by omega)
  rw [← ed1]
  clear ed1
  refine lv_iload hx hb dL_law_269 (lv_at hl 8 rfl) ?_
  refine lv_bipush (v := 8) hx hb dL_law_271 (by decide) ?_
  refine lv_ishr hx hb dL_law_273 ?_
  refine lv_sipush (v := 900) hx hb dL_law_274 (by decide) ?_
  refine lpS hx hb hml hts hown hE kwL_52 (c_low E (w >>> (8 &&& 31)) 900 900 H rfl (by decide) (by decide)) (by decide) rfl hl.1 rfl (Nat.le_of_ble_eq_true rfl) (by omega) (by omega) dL_law_277 ?_
  obtain ⟨r1, er1⟩ : ∃ z, z = lw (w >>> (8 &&& 31)) 900 := ⟨_, rfl⟩
  have hr1 : r1 < 900 := by rw [er1]; exact lw_lt (by omega)
  rw [← er1]
  clear er1
  refine lv_bipush (v := 100) hx hb dL_law_280 (by decide) ?_
  refine lv_isub hx hb dL_law_282 ?_
  obtain ⟨hcd, hGn⟩ := GI.fix (d := d1) (r := nI r1 - 100) hGI hn44 (by omega) (rate_ok hr1)
  have hfl := hGI.1.2.2.2.2.1
  refine lgV hx hb hml hts hown hB hE hS kwL_63 (n_fix hA.1 hV hK hcd) hA.1.ob.choose_spec rfl (by decide) rfl hl.1 rfl (Nat.le_of_ble_eq_true rfl) (by omega) (by omega) dL_law_283 (fun H1 L1 hG hz1 hE hS => ?_)
  obtain ⟨ow, hA⟩ := hA.out hG
  refine lv_pop hx hb dL_law_286 rfl ?_
  refine lv_goto (tgt := 555) hx hb dL_law_287 (by decide) ?_
  exact kk H1 L1 _ _ _ ls hE hS ⟨ow, h0, h1, (dPut fx (nI d1) (nI r1 - 100)), ts, pf, rf, hf, gf, hA, hGn, rfl, by omega, by omega⟩ (lv_sub hl [0, 1, 2, 3, 4, 5, 6, 7, 8, 9] rfl)

set_option maxRecDepth 100000 in
set_option maxHeartbeats 4000000 in
/-- a holiday -/
theorem lc_hol {p : Program} {e : Env} {s : State} {m : MethodId} {below : List Frame} {meth : Method} {c : Code} {Q : State → Prop} {b n tn : Nat} {E : ET} {x a2 a3 a4 a5 cells slots C S : Nat} {H : Heap} {locs : List Loc} {ls : Array Slot} {w : Int32} (hC : LX p s m c b E a2 a3 a4 a5 n C S) (hE : EV E s H) (hS : va_S (fr E) s.heap H locs) (hI : LI E x a2 a3 a4 a5 n tn cells slots C S H) (hn30 : n < 30) (hl : lv_has ls 16 [(0, .ref b), (1, .ref x), (2, .ref a2), (3, .ref a3), (4, .ref a4), (5, .ref a5), (6, .int (nI tn)), (7, .int (nI n)), (9, .int w), (11, .int 1)])
    (kk : ∀ (H1 : Heap) (locs1 : List Loc) (cells1 slots1 tn1 : Nat) (ls1 : Array Slot), EV E s H1 → va_S (fr E) s.heap H1 locs1 → LI E x a2 a3 a4 a5 (n + 1) tn1 cells1 slots1 (C + 1500) (S + 7000) H1 → lv_has ls1 16 [(0, .ref b), (1, .ref x), (2, .ref a2), (3, .ref a3), (4, .ref a4), (5, .ref a5), (6, .int (nI tn1)), (7, .int (nI n)), (9, .int w), (11, .int 1)] → W p (eL E) e room_1 s m #[Value.ref b] below meth c H1 locs1 cells1 slots1 Q (F0 m 555 ls1 [])) : W p (eL E) e room_1 s m #[Value.ref b] below meth c H locs cells slots Q (F0 m 304 ls []) := by
  obtain ⟨hx, hb, hml, hown, hts, hBE, ⟨hg2, hg3, hg4, hg5⟩, hn44, hC9, hS9⟩ := hC
  obtain ⟨ow, h0, h1, fx, ts, pf, rf, hf, gf, hA, hGI, hlen, hcl, hsl⟩ := hI
  subst hlen
  have hB : eB E ≤ s.heap.size := Nat.le_of_eq hBE
  have hBF := hE.2.2.1
  have hV := hGI.1.1
  have htn := hV.tn
  have hzl := zc_le ts
  obtain ⟨hK, hK54⟩ := hGI.1.bl (by omega)
  obtain ⟨hi1, hi2, -, -⟩ := hGI.1.2.2.2.1
  refine lv_iload hx hb dL_law_304 (lv_at hl 8 rfl) ?_
  refine lv_iconst (v := 2) hx hb dL_law_306 (by decide) ?_
  refine lpS hx hb hml hts hown hE kwL_52 (c_low E w 2 2 H rfl (by decide) (by decide)) (by decide) rfl hl.1 rfl (Nat.le_of_ble_eq_true rfl) (by omega) (by omega) dL_law_307 ?_
  obtain ⟨q0, eq0⟩ : ∃ z, z = lw w 2 := ⟨_, rfl⟩
  have hq0 : q0 < 2 := by rw [eq0]; exact lw_lt (by omega)
  rw [← eq0]
  clear eq0
  rcases (show q0 = 0 ∨ q0 = 1 by omega) with e0 | e0 <;> subst e0
  · refine lv_istore (lv' := [(12, .int (nI 0)), (0, .ref b), (1, .ref x), (2, .ref a2), (3, .ref a3), (4, .ref a4), (5, .ref a5), (6, .int (nI ts.length)), (7, .int (nI n)), (9, .int w), (11, .int 1)]) hx hb dL_law_310 hl (by decide) rfl (fun ls hl => ?_)
    refine lv_bipush (v := 40) hx hb dL_law_312 (by decide) ?_
    refine lv_iload hx hb dL_law_314 (lv_at hl 0 rfl) ?_
    refine lv_imul hx hb dL_law_316 ?_
    refine lv_iload hx hb dL_law_317 (lv_at hl 8 rfl) ?_
    refine lv_iadd hx hb dL_law_319 ?_
    rw [show (40 : Int32) * nI 0 + nI n = nI n from day0 n]
    refine lv_istore (lv' := [(13, .int (nI n)), (12, .int (nI 0)), (0, .ref b), (1, .ref x), (2, .ref a2), (3, .ref a3), (4, .ref a4), (5, .ref a5), (6, .int (nI ts.length)), (7, .int (nI n)), (9, .int w), (11, .int 1)]) hx hb dL_law_320 hl (by decide) rfl (fun ls hl => ?_)
    refine lv_aload hx hb dL_law_322 (lv_at hl 7 rfl) ?_
    refine lv_iload hx hb dL_law_324 (lv_at hl 1 rfl) ?_
    refine aI hx hb hE hA.2.1.2.2.2 rfl (by decide) (by decide) hi1 dL_law_326 ?_
    refine lv_bipush (v := 20) hx hb dL_law_327 (by decide) ?_
    refine lv_icmp_ge (tgt := 384) hx hb dL_law_329 (by decide) (fun c1 => ?_) (fun c1 => ?_)
    · refine lv_goto (tgt := 555) hx hb dL_law_384 (by decide) ?_
      exact kk H locs _ _ _ ls hE hS ⟨ow, h0, h1, fx, ts, pf, rf, hf, gf, hA, hGI.up, rfl, by omega, by omega⟩ (lv_sub hl [2, 3, 4, 5, 6, 7, 8, 9, 10, 11] rfl)
    · have hbig := hV.1
      have hh : h0.length < 20 := by rcases Nat.lt_or_ge h0.length 20 with q9 | q9; exact q9; exact absurd (nI_le (a := 20) q9 (by omega)) c1
      refine lv_aload hx hb dL_law_332 (lv_at hl 7 rfl) ?_
      refine lv_iload hx hb dL_law_334 (lv_at hl 1 rfl) ?_
      refine lv_dup2_11 hx hb dL_law_336 rfl rfl ?_
      refine aI hx hb hE hA.2.1.2.2.2 rfl (by decide) (by decide) hi1 dL_law_337 ?_
      refine lv_iconst (v := 1) hx hb dL_law_338 (by decide) ?_
      refine lv_iadd hx hb dL_law_339 ?_
      rw [show nI h0.length + 1 = nI (h0.length + 1) from nI_1 _]
      refine asI (j := 0) hx hb hE hS hA.2.1.2.2.2 hg5 rfl (by decide) (by decide) dL_law_340 (fun H1 L1 hO1 hz1 hq1 hE hS => ?_)
      have hA := hA.p5 hO1 hg5 hBF hq1
      obtain ⟨hcd, hGn⟩ := GI.hol0 hGI hn30 hh
      refine lv_aload_n hx hb dL_law_341 rfl (lv_at hl 3 rfl) ?_
      refine lv_iload hx hb dL_law_342 (lv_at hl 1 rfl) ?_
      refine lv_iload hx hb dL_law_344 (lv_at hl 0 rfl) ?_
      refine lgV hx hb hml hts hown hB hE hS kwL_66 (n_hol0 hA.1 hV hK hcd) hA.1.ob.choose_spec rfl (by decide) rfl hl.1 rfl (Nat.le_of_ble_eq_true rfl) (by omega) (by omega) dL_law_346 (fun H2 L2 hG hz2 hE hS => ?_)
      obtain ⟨ow, hA⟩ := hA.out hG
      have hVn := hGn.1.1
      refine lv_aload hx hb dL_law_349 (lv_at hl 7 rfl) ?_
      refine lv_iload hx hb dL_law_351 (lv_at hl 1 rfl) ?_
      refine aI hx hb hE hA.2.1.2.2.2 rfl (by decide) (by decide) (upd_at _ _ _) dL_law_353 ?_
      refine lv_icmp_ne (tgt := 381) hx hb dL_law_354 (by decide) (fun c2 => ?_) (fun c2 => ?_)
      · exact absurd rfl c2
      refine lv_aload_n hx hb dL_law_357 rfl (lv_at hl 3 rfl) ?_
      refine lv_iload hx hb dL_law_358 (lv_at hl 0 rfl) ?_
      refine lgV hx hb hml hts hown hB hE hS kwL_69 (n_open (d := n) hA.1 hVn hK (by omega)) hA.1.ob.choose_spec rfl (by decide) rfl hl.1 rfl (Nat.le_of_ble_eq_true rfl) (by omega) (by omega) dL_law_360 (fun H3 L3 hG hz3 hE hS => ?_)
      have hG := hG.symm
      subst hG
      refine lv_if_ne (tgt := 381) hx hb dL_law_363 (by decide) (fun c3 => ?_) (fun c3 => ?_)
      · exact absurd (by rw [opn_no0]; rfl) c3
      refine lv_aload_n hx hb dL_law_366 rfl (lv_at hl 3 rfl) ?_
      refine lv_iload hx hb dL_law_367 (lv_at hl 0 rfl) ?_
      refine lgV hx hb hml hts hown hB hE hS kwL_73 (n_roll (d := n) hA.1 hVn hK (by omega)) hA.1.ob.choose_spec rfl (by decide) rfl hl.1 rfl (Nat.le_of_ble_eq_true rfl) (by omega) (by omega) dL_law_369 (fun H4 L4 hG hz4 hE hS => ?_)
      have hG := hG.symm
      subst hG
      have hgt := rol_gt hVn.1 hVn.2.1 (d := n) (by omega) (opn_no0 n)
      have hrl := rol_le (h0 ++ [(nI n, 0)]) h1 n
      refine lv_iload hx hb dL_law_372 (lv_at hl 0 rfl) ?_
      refine lv_icmp_le (tgt := 381) hx hb dL_law_374 (by decide) (fun c4 => ?_) (fun c4 => ?_)
      · exact absurd c4 (nI_ge hgt (by omega))
      refine lv_iconst (v := 1) hx hb dL_law_377 (by decide) ?_
      refine lv_goto (tgt := 382) hx hb dL_law_378 (by decide) ?_
      refine lv_istore (lv' := [(11, .int 1), (13, .int (nI n)), (12, .int (nI 0)), (0, .ref b), (1, .ref x), (2, .ref a2), (3, .ref a3), (4, .ref a4), (5, .ref a5), (6, .int (nI ts.length)), (7, .int (nI n)), (9, .int w)]) hx hb dL_law_382 hl (by decide) rfl (fun ls hl => ?_)
      refine lv_goto (tgt := 555) hx hb dL_law_384 (by decide) ?_
      exact kk H2 L4 _ _ _ ls hE hS ⟨ow, (h0 ++ [(nI n, 0)]), h1, fx, ts, pf, rf, hf, (upd gf 0 (nI (h0.length + 1))), hA, hGn, rfl, by omega, by omega⟩ (lv_sub hl [3, 4, 5, 6, 7, 8, 9, 10, 11, 0] rfl)
  · refine lv_istore (lv' := [(12, .int (nI 1)), (0, .ref b), (1, .ref x), (2, .ref a2), (3, .ref a3), (4, .ref a4), (5, .ref a5), (6, .int (nI ts.length)), (7, .int (nI n)), (9, .int w), (11, .int 1)]) hx hb dL_law_310 hl (by decide) rfl (fun ls hl => ?_)
    refine lv_bipush (v := 40) hx hb dL_law_312 (by decide) ?_
    refine lv_iload hx hb dL_law_314 (lv_at hl 0 rfl) ?_
    refine lv_imul hx hb dL_law_316 ?_
    refine lv_iload hx hb dL_law_317 (lv_at hl 8 rfl) ?_
    refine lv_iadd hx hb dL_law_319 ?_
    rw [show (40 : Int32) * nI 1 + nI n = nI (40 + n) from day1 n]
    refine lv_istore (lv' := [(13, .int (nI (40 + n))), (12, .int (nI 1)), (0, .ref b), (1, .ref x), (2, .ref a2), (3, .ref a3), (4, .ref a4), (5, .ref a5), (6, .int (nI ts.length)), (7, .int (nI n)), (9, .int w), (11, .int 1)]) hx hb dL_law_320 hl (by decide) rfl (fun ls hl => ?_)
    refine lv_aload hx hb dL_law_322 (lv_at hl 7 rfl) ?_
    refine lv_iload hx hb dL_law_324 (lv_at hl 1 rfl) ?_
    refine aI hx hb hE hA.2.1.2.2.2 rfl (by decide) (by decide) hi2 dL_law_326 ?_
    refine lv_bipush (v := 20) hx hb dL_law_327 (by decide) ?_
    refine lv_icmp_ge (tgt := 384) hx hb dL_law_329 (by decide) (fun c1 => ?_) (fun c1 => ?_)
    · refine lv_goto (tgt := 555) hx hb dL_law_384 (by decide) ?_
      exact kk H locs _ _ _ ls hE hS ⟨ow, h0, h1, fx, ts, pf, rf, hf, gf, hA, hGI.up, rfl, by omega, by omega⟩ (lv_sub hl [2, 3, 4, 5, 6, 7, 8, 9, 10, 11] rfl)
    · have hbig := hV.2.1
      have hh : h1.length < 20 := by rcases Nat.lt_or_ge h1.length 20 with q9 | q9; exact q9; exact absurd (nI_le (a := 20) q9 (by omega)) c1
      refine lv_aload hx hb dL_law_332 (lv_at hl 7 rfl) ?_
      refine lv_iload hx hb dL_law_334 (lv_at hl 1 rfl) ?_
      refine lv_dup2_11 hx hb dL_law_336 rfl rfl ?_
      refine aI hx hb hE hA.2.1.2.2.2 rfl (by decide) (by decide) hi2 dL_law_337 ?_
      refine lv_iconst (v := 1) hx hb dL_law_338 (by decide) ?_
      refine lv_iadd hx hb dL_law_339 ?_
      rw [show nI h1.length + 1 = nI (h1.length + 1) from nI_1 _]
      refine asI (j := 1) hx hb hE hS hA.2.1.2.2.2 hg5 rfl (by decide) (by decide) dL_law_340 (fun H1 L1 hO1 hz1 hq1 hE hS => ?_)
      have hA := hA.p5 hO1 hg5 hBF hq1
      obtain ⟨hcd, hGn⟩ := GI.hol1 hGI hn30 hh
      refine lv_aload_n hx hb dL_law_341 rfl (lv_at hl 3 rfl) ?_
      refine lv_iload hx hb dL_law_342 (lv_at hl 1 rfl) ?_
      refine lv_iload hx hb dL_law_344 (lv_at hl 0 rfl) ?_
      refine lgV hx hb hml hts hown hB hE hS kwL_66 (n_hol1 hA.1 hV hK hcd) hA.1.ob.choose_spec rfl (by decide) rfl hl.1 rfl (Nat.le_of_ble_eq_true rfl) (by omega) (by omega) dL_law_346 (fun H2 L2 hG hz2 hE hS => ?_)
      obtain ⟨ow, hA⟩ := hA.out hG
      have hVn := hGn.1.1
      refine lv_aload hx hb dL_law_349 (lv_at hl 7 rfl) ?_
      refine lv_iload hx hb dL_law_351 (lv_at hl 1 rfl) ?_
      refine aI hx hb hE hA.2.1.2.2.2 rfl (by decide) (by decide) (upd_at _ _ _) dL_law_353 ?_
      refine lv_icmp_ne (tgt := 381) hx hb dL_law_354 (by decide) (fun c2 => ?_) (fun c2 => ?_)
      · exact absurd rfl c2
      refine lv_aload_n hx hb dL_law_357 rfl (lv_at hl 3 rfl) ?_
      refine lv_iload hx hb dL_law_358 (lv_at hl 0 rfl) ?_
      refine lgV hx hb hml hts hown hB hE hS kwL_69 (n_open (d := (40 + n)) hA.1 hVn hK (by omega)) hA.1.ob.choose_spec rfl (by decide) rfl hl.1 rfl (Nat.le_of_ble_eq_true rfl) (by omega) (by omega) dL_law_360 (fun H3 L3 hG hz3 hE hS => ?_)
      have hG := hG.symm
      subst hG
      refine lv_if_ne (tgt := 381) hx hb dL_law_363 (by decide) (fun c3 => ?_) (fun c3 => ?_)
      · exact absurd (by rw [opn_no1]; rfl) c3
      refine lv_aload_n hx hb dL_law_366 rfl (lv_at hl 3 rfl) ?_
      refine lv_iload hx hb dL_law_367 (lv_at hl 0 rfl) ?_
      refine lgV hx hb hml hts hown hB hE hS kwL_73 (n_roll (d := (40 + n)) hA.1 hVn hK (by omega)) hA.1.ob.choose_spec rfl (by decide) rfl hl.1 rfl (Nat.le_of_ble_eq_true rfl) (by omega) (by omega) dL_law_369 (fun H4 L4 hG hz4 hE hS => ?_)
      have hG := hG.symm
      subst hG
      have hgt := rol_gt hVn.1 hVn.2.1 (d := (40 + n)) (by omega) (opn_no1 (40 + n))
      have hrl := rol_le h0 (h1 ++ [(nI (40 + n), 1)]) (40 + n)
      refine lv_iload hx hb dL_law_372 (lv_at hl 0 rfl) ?_
      refine lv_icmp_le (tgt := 381) hx hb dL_law_374 (by decide) (fun c4 => ?_) (fun c4 => ?_)
      · exact absurd c4 (nI_ge hgt (by omega))
      refine lv_iconst (v := 1) hx hb dL_law_377 (by decide) ?_
      refine lv_goto (tgt := 382) hx hb dL_law_378 (by decide) ?_
      refine lv_istore (lv' := [(11, .int 1), (13, .int (nI (40 + n))), (12, .int (nI 1)), (0, .ref b), (1, .ref x), (2, .ref a2), (3, .ref a3), (4, .ref a4), (5, .ref a5), (6, .int (nI ts.length)), (7, .int (nI n)), (9, .int w)]) hx hb dL_law_382 hl (by decide) rfl (fun ls hl => ?_)
      refine lv_goto (tgt := 555) hx hb dL_law_384 (by decide) ?_
      exact kk H2 L4 _ _ _ ls hE hS ⟨ow, h0, (h1 ++ [(nI (40 + n), 1)]), fx, ts, pf, rf, hf, (upd gf 1 (nI (h1.length + 1))), hA, hGn, rfl, by omega, by omega⟩ (lv_sub hl [3, 4, 5, 6, 7, 8, 9, 10, 11, 0] rfl)

set_option maxRecDepth 100000 in
set_option maxHeartbeats 4000000 in
/-- a break -/
theorem lc_brk {p : Program} {e : Env} {s : State} {m : MethodId} {below : List Frame} {meth : Method} {c : Code} {Q : State → Prop} {b n tn : Nat} {E : ET} {x a2 a3 a4 a5 cells slots C S : Nat} {H : Heap} {locs : List Loc} {ls : Array Slot} {w : Int32} (hC : LX p s m c b E a2 a3 a4 a5 n C S) (hE : EV E s H) (hS : va_S (fr E) s.heap H locs) (hI : LI E x a2 a3 a4 a5 n tn cells slots C S H) (htp : 0 < tn) (hl : lv_has ls 16 [(0, .ref b), (1, .ref x), (2, .ref a2), (3, .ref a3), (4, .ref a4), (5, .ref a5), (6, .int (nI tn)), (7, .int (nI n)), (9, .int w), (11, .int 1)])
    (kk : ∀ (H1 : Heap) (locs1 : List Loc) (cells1 slots1 tn1 : Nat) (ls1 : Array Slot), EV E s H1 → va_S (fr E) s.heap H1 locs1 → LI E x a2 a3 a4 a5 (n + 1) tn1 cells1 slots1 (C + 1500) (S + 7000) H1 → lv_has ls1 16 [(0, .ref b), (1, .ref x), (2, .ref a2), (3, .ref a3), (4, .ref a4), (5, .ref a5), (6, .int (nI tn1)), (7, .int (nI n)), (9, .int w), (11, .int 1)] → W p (eL E) e room_1 s m #[Value.ref b] below meth c H1 locs1 cells1 slots1 Q (F0 m 555 ls1 [])) : W p (eL E) e room_1 s m #[Value.ref b] below meth c H locs cells slots Q (F0 m 394 ls []) := by
  obtain ⟨hx, hb, hml, hown, hts, hBE, ⟨hg2, hg3, hg4, hg5⟩, hn44, hC9, hS9⟩ := hC
  obtain ⟨ow, h0, h1, fx, ts, pf, rf, hf, gf, hA, hGI, hlen, hcl, hsl⟩ := hI
  subst hlen
  have hB : eB E ≤ s.heap.size := Nat.le_of_eq hBE
  have hBF := hE.2.2.1
  have hV := hGI.1.1
  have htn := hV.tn
  have hzl := zc_le ts
  obtain ⟨hK, hK54⟩ := hGI.1.bl (by omega)
  refine lv_iload hx hb dL_law_394 (lv_at hl 8 rfl) ?_
  refine lv_iload hx hb dL_law_396 (lv_at hl 6 rfl) ?_
  refine lpS hx hb hml hts hown hE kwL_52 (c_low E w (nI ts.length) ts.length H rfl (by omega) (by omega)) (by decide) rfl hl.1 rfl (Nat.le_of_ble_eq_true rfl) (by omega) (by omega) dL_law_398 ?_
  obtain ⟨t0, et0⟩ : ∃ z, z = lw w ts.length := ⟨_, rfl⟩
  have ht0 : t0 < ts.length := by rw [et0]; exact lw_lt (by omega)
  rw [← et0]
  clear et0
  obtain ⟨tr, ht⟩ := getq ht0
  obtain ⟨tp1, tp2, tp3⟩ := hGI.1.2.1 t0 tr ht
  have hT := hV.tv ht
  obtain ⟨n6, n1, n10⟩ := hT.n
  refine lv_istore (lv' := [(12, .int (nI t0)), (0, .ref b), (1, .ref x), (2, .ref a2), (3, .ref a3), (4, .ref a4), (5, .ref a5), (6, .int (nI ts.length)), (7, .int (nI n)), (9, .int w), (11, .int 1)]) hx hb dL_law_401 hl (by decide) rfl (fun ls hl => ?_)
  refine lv_iconst (v := 1) hx hb dL_law_403 (by decide) ?_
  refine lv_iload hx hb dL_law_404 (lv_at hl 9 rfl) ?_
  refine lv_iconst (v := 4) hx hb dL_law_406 (by decide) ?_
  refine lv_ishr hx hb dL_law_407 ?_
  refine lv_iconst (v := 4) hx hb dL_law_408 (by decide) ?_
  refine lpS hx hb hml hts hown hE kwL_52 (c_low E (w >>> (4 &&& 31)) 4 4 H rfl (by decide) (by decide)) (by decide) rfl hl.1 rfl (Nat.le_of_ble_eq_true rfl) (by omega) (by omega) dL_law_409 ?_
  obtain ⟨l4, el4⟩ : ∃ z, z = lw (w >>> (4 &&& 31)) 4 := ⟨_, rfl⟩
  have hl4 : l4 < 4 := by rw [el4]; exact lw_lt (by omega)
  rw [← el4]
  clear el4
  refine lv_iadd hx hb dL_law_412 ?_
  rw [show 1 + nI l4 = nI (1 + l4) from nI_add 1 l4]
  refine lv_istore (lv' := [(13, .int (nI (1 + l4))), (12, .int (nI t0)), (0, .ref b), (1, .ref x), (2, .ref a2), (3, .ref a3), (4, .ref a4), (5, .ref a5), (6, .int (nI ts.length)), (7, .int (nI n)), (9, .int w), (11, .int 1)]) hx hb dL_law_413 hl (by decide) rfl (fun ls hl => ?_)
  refine lv_aload_n hx hb dL_law_415 rfl (lv_at hl 3 rfl) ?_
  refine lv_iload hx hb dL_law_416 (lv_at hl 1 rfl) ?_
  refine lv_aload_n hx hb dL_law_418 rfl (lv_at hl 4 rfl) ?_
  refine lv_iload hx hb dL_law_419 (lv_at hl 1 rfl) ?_
  refine aI hx hb hE hA.2.1.1 rfl (by omega) (by decide) tp1 dL_law_421 ?_
  refine lv_iconst (v := 1) hx hb dL_law_422 (by decide) ?_
  refine lv_isub hx hb dL_law_423 ?_
  rw [show nI (np tr) - 1 = nI (np tr - 1) from nI_sub (b := 1) n1]
  refine lgV hx hb hml hts hown hB hE hS kwL_42 (n_start hA.1 hV hK ht (k := np tr - 1) (by omega)) hA.1.ob.choose_spec rfl (by decide) rfl hl.1 rfl (Nat.le_of_ble_eq_true rfl) (by omega) (by omega) dL_law_424 (fun H1 L1 hG hz1 hE hS => ?_)
  have hG := hG.symm
  subst hG
  refine lv_istore (lv' := [(14, .int (bfC h0 h1 tr.1 (np tr - 1))), (13, .int (nI (1 + l4))), (12, .int (nI t0)), (0, .ref b), (1, .ref x), (2, .ref a2), (3, .ref a3), (4, .ref a4), (5, .ref a5), (6, .int (nI ts.length)), (7, .int (nI n)), (9, .int w), (11, .int 1)]) hx hb dL_law_427 hl (by decide) rfl (fun ls hl => ?_)
  refine lv_aload_n hx hb dL_law_429 rfl (lv_at hl 4 rfl) ?_
  refine lv_iload hx hb dL_law_430 (lv_at hl 2 rfl) ?_
  refine lv_aload_n hx hb dL_law_432 rfl (lv_at hl 5 rfl) ?_
  refine lv_iload hx hb dL_law_433 (lv_at hl 2 rfl) ?_
  refine aI hx hb hE hA.2.1.1 rfl (by omega) (by decide) tp1 dL_law_435 ?_
  refine lv_iconst (v := 1) hx hb dL_law_436 (by decide) ?_
  refine lv_isub hx hb dL_law_437 ?_
  rw [show nI (np tr) - 1 = nI (np tr - 1) from nI_sub (b := 1) n1]
  refine lgV hx hb hml hts hown hB hE hS kwL_39 (n_lots hA.1 hV hK ht (k := np tr - 1) (by omega)) hA.1.ob.choose_spec rfl (by decide) rfl hl.1 rfl (Nat.le_of_ble_eq_true rfl) (by omega) (by omega) dL_law_438 (fun H2 L2 hG hz2 hE hS => ?_)
  have hG := hG.symm
  subst hG
  refine lv_istore (lv' := [(15, .int (lotS tr.1 tr.2.1 (bfC h0 h1 tr.1) (np tr - 1))), (14, .int (bfC h0 h1 tr.1 (np tr - 1))), (13, .int (nI (1 + l4))), (12, .int (nI t0)), (0, .ref b), (1, .ref x), (2, .ref a2), (3, .ref a3), (4, .ref a4), (5, .ref a5), (6, .int (nI ts.length)), (7, .int (nI n)), (9, .int w), (11, .int 1)]) hx hb dL_law_441 hl (by decide) rfl (fun ls hl => ?_)
  refine lv_iload hx hb dL_law_443 (lv_at hl 0 rfl) ?_
  refine lv_iload hx hb dL_law_445 (lv_at hl 2 rfl) ?_
  refine lv_icmp_lt (tgt := 503) hx hb dL_law_447 (by decide) (fun c1 => ?_) (fun c1 => ?_)
  · refine lv_goto (tgt := 555) hx hb dL_law_503 (by decide) ?_
    exact kk H L2 _ _ _ ls hE hS ⟨ow, h0, h1, fx, ts, pf, rf, hf, gf, hA, hGI.up, rfl, by omega, by omega⟩ (lv_sub hl [4, 5, 6, 7, 8, 9, 10, 11, 12, 13] rfl)
  · refine lv_iload hx hb dL_law_450 (lv_at hl 0 rfl) ?_
    refine lv_aload_n hx hb dL_law_452 rfl (lv_at hl 7 rfl) ?_
    refine lv_iload hx hb dL_law_453 (lv_at hl 3 rfl) ?_
    refine aI hx hb hE hA.2.1.2.1 rfl (by omega) (by decide) rfl dL_law_455 ?_
    refine lv_icmp_gt (tgt := 503) hx hb dL_law_456 (by decide) (fun c2 => ?_) (fun c2 => ?_)
    · refine lv_goto (tgt := 555) hx hb dL_law_503 (by decide) ?_
      exact kk H L2 _ _ _ ls hE hS ⟨ow, h0, h1, fx, ts, pf, rf, hf, gf, hA, hGI.up, rfl, by omega, by omega⟩ (lv_sub hl [4, 5, 6, 7, 8, 9, 10, 11, 12, 13] rfl)
    · obtain ⟨m9, hm9, em9⟩ := bfC_nat (h0 := h0) (h1 := h1) hT (k := np tr - 1) (by omega)
      have hm3 : m9 ≤ 3000 := by obtain ⟨-, -, g5, f9, hf9, t4, t5⟩ := tp2; have e9 : bfC h0 h1 tr.1 (np tr - 1) = nI (rol h0 h1 (f9 + (np tr - 1) * 30)) := bfC_eq t4 t5 n6 (by omega) (by decide) (by omega) (by omega); have e8 := rol_le h0 h1 (f9 + (np tr - 1) * 30); rw [em9] at e9; have e7 := nI_inj e9 (by omega) (by omega); omega
      refine lv_aload_n hx hb dL_law_459 rfl (lv_at hl 5 rfl) ?_
      refine lv_iload hx hb dL_law_460 (lv_at hl 3 rfl) ?_
      refine lv_iload hx hb dL_law_462 (lv_at hl 12 rfl) ?_
      refine lv_bipush (v := 7) hx hb dL_law_464 (by decide) ?_
      refine lv_ishr hx hb dL_law_466 ?_
      refine lv_iload hx hb dL_law_467 (lv_at hl 1 rfl) ?_
      refine lv_iconst (v := 1) hx hb dL_law_469 (by decide) ?_
      refine lv_iadd hx hb dL_law_470 ?_
      rw [show bfC h0 h1 tr.1 (np tr - 1) + 1 = nI (m9 + 1) by rw [em9]; exact nI_1 m9]
      refine lpS hx hb hml hts hown hE kwL_52 (c_low E (w >>> (7 &&& 31)) (nI (m9 + 1)) (m9 + 1) H rfl (by omega) (by omega)) (by decide) rfl hl.1 rfl (Nat.le_of_ble_eq_true rfl) (by omega) (by omega) dL_law_471 ?_
      obtain ⟨d1, ed1⟩ : ∃ z, z = lw (w >>> (7 &&& 31)) (m9 + 1) := ⟨_, rfl⟩
      have hd1 : d1 < m9 + 1 := by rw [ed1]; exact lw_lt (by omega)
      rw [← ed1]
      clear ed1
      refine lv_iload hx hb dL_law_474 (lv_at hl 2 rfl) ?_
      refine lv_iload hx hb dL_law_476 (lv_at hl 0 rfl) ?_
      refine lv_aload_n hx hb dL_law_478 rfl (lv_at hl 6 rfl) ?_
      refine lv_iload hx hb dL_law_479 (lv_at hl 3 rfl) ?_
      refine aI hx hb hE hA.2.1.1 rfl (by omega) (by decide) tp1 dL_law_481 ?_
      have hdb : nI d1 ≤ bfC h0 h1 tr.1 (np tr - 1) := by rw [em9]; exact nI_le (by omega) (by omega)
      obtain ⟨hcd, hGn, hzn⟩ := GI.brk (d := d1) (w := 1 + l4) hGI ht (by omega) hdb (by omega) (by omega) c1 c2
      refine lgS hx hb hml hts hown hB hE hS kwL_76 (c_breaks E ow x h0 h1 fx ts t0 54 0 tr (nI d1) (nI (1 + l4)) H hA.1 hV hK hK54 (by decide) ht hcd hdb) (by decide) rfl hl.1 rfl (Nat.le_of_ble_eq_true rfl) (by omega) (by omega) dL_law_482 (fun H3 L3 hG hz3 hE hS => ?_)
      obtain ⟨ow, hA⟩ := hA.out hG
      have hVn := hGn.1.1
      have hKn := (hGn.1.bl (by omega)).1
      have htn2 : (ts.set t0 (brT tr (nI d1) (nI (1 + l4))))[t0]? = some (brT tr (nI d1) (nI (1 + l4))) := List.getElem?_set_self ht0
      refine lv_istore (lv' := [(11, .int 1), (15, .int (lotS tr.1 tr.2.1 (bfC h0 h1 tr.1) (np tr - 1))), (14, .int (bfC h0 h1 tr.1 (np tr - 1))), (13, .int (nI (1 + l4))), (12, .int (nI t0)), (0, .ref b), (1, .ref x), (2, .ref a2), (3, .ref a3), (4, .ref a4), (5, .ref a5), (6, .int (nI ts.length)), (7, .int (nI n)), (9, .int w)]) hx hb dL_law_485 hl (by decide) rfl (fun ls hl => ?_)
      refine lv_aload_n hx hb dL_law_487 rfl (lv_at hl 8 rfl) ?_
      refine lv_iload hx hb dL_law_488 (lv_at hl 4 rfl) ?_
      refine lv_aload_n hx hb dL_law_490 rfl (lv_at hl 6 rfl) ?_
      refine lv_iload hx hb dL_law_491 (lv_at hl 4 rfl) ?_
      refine lv_aload_n hx hb dL_law_493 rfl (lv_at hl 7 rfl) ?_
      refine lv_iload hx hb dL_law_494 (lv_at hl 4 rfl) ?_
      refine aI hx hb hE hA.2.1.1 rfl (by omega) (by decide) tp1 dL_law_496 ?_
      refine lv_iconst (v := 1) hx hb dL_law_497 (by decide) ?_
      refine lv_isub hx hb dL_law_498 ?_
      rw [show nI (np tr) - 1 = nI (np tr - 1) from nI_sub (b := 1) n1]
      refine lgV hx hb hml hts hown hB hE hS kwL_39 (n_lots hA.1 hVn hKn htn2 (k := np tr - 1) (by show np tr - 1 < np tr; omega)) hA.1.ob.choose_spec rfl (by decide) rfl hl.1 rfl (Nat.le_of_ble_eq_true rfl) (by omega) (by omega) dL_law_499 (fun H4 L4 hG hz4 hE hS => ?_)
      have hG := hG.symm
      subst hG
      refine asI (j := t0) hx hb hE hS hA.2.1.2.1 hg3 rfl (by omega) (by decide) dL_law_502 (fun H5 L5 hO5 hz5 hq5 hE hS => ?_)
      have hA := hA.p3 hO5 hg3 hBF hq5
      refine lv_goto (tgt := 555) hx hb dL_law_503 (by decide) ?_
      exact kk H5 L5 _ _ _ ls hE hS ⟨ow, h0, h1, fx, (ts.set t0 (brT tr (nI d1) (nI (1 + l4)))), pf, (upd rf t0 (lotS tr.1 (tr.2.1 ++ [(nI d1, nI (1 + l4))]) (bfC h0 h1 tr.1) (np tr - 1))), hf, gf, hA, hGn, List.length_set, by omega, by omega⟩ (lv_sub hl [5, 6, 7, 8, 9, 10, 11, 12, 13, 0] rfl)

set_option maxRecDepth 100000 in
set_option maxHeartbeats 4000000 in
/-- a pressing -/
theorem lc_prs {p : Program} {e : Env} {s : State} {m : MethodId} {below : List Frame} {meth : Method} {c : Code} {Q : State → Prop} {b n tn : Nat} {E : ET} {x a2 a3 a4 a5 cells slots C S : Nat} {H : Heap} {locs : List Loc} {ls : Array Slot} {w : Int32} (hC : LX p s m c b E a2 a3 a4 a5 n C S) (hE : EV E s H) (hS : va_S (fr E) s.heap H locs) (hI : LI E x a2 a3 a4 a5 n tn cells slots C S H) (hl : lv_has ls 16 [(0, .ref b), (1, .ref x), (2, .ref a2), (3, .ref a3), (4, .ref a4), (5, .ref a5), (6, .int (nI tn)), (7, .int (nI n)), (9, .int w), (11, .int 1)])
    (kk : ∀ (H1 : Heap) (locs1 : List Loc) (cells1 slots1 tn1 : Nat) (ls1 : Array Slot), EV E s H1 → va_S (fr E) s.heap H1 locs1 → LI E x a2 a3 a4 a5 (n + 1) tn1 cells1 slots1 (C + 1500) (S + 7000) H1 → lv_has ls1 16 [(0, .ref b), (1, .ref x), (2, .ref a2), (3, .ref a3), (4, .ref a4), (5, .ref a5), (6, .int (nI tn1)), (7, .int (nI n)), (9, .int w), (11, .int 1)] → W p (eL E) e room_1 s m #[Value.ref b] below meth c H1 locs1 cells1 slots1 Q (F0 m 555 ls1 [])) : W p (eL E) e room_1 s m #[Value.ref b] below meth c H locs cells slots Q (F0 m 506 ls []) := by
  obtain ⟨hx, hb, hml, hown, hts, hBE, ⟨hg2, hg3, hg4, hg5⟩, hn44, hC9, hS9⟩ := hC
  obtain ⟨ow, h0, h1, fx, ts, pf, rf, hf, gf, hA, hGI, hlen, hcl, hsl⟩ := hI
  subst hlen
  have hB : eB E ≤ s.heap.size := Nat.le_of_eq hBE
  have hBF := hE.2.2.1
  have hV := hGI.1.1
  have htn := hV.tn
  have hzl := zc_le ts
  obtain ⟨hK, hK54⟩ := hGI.1.bl (by omega)
  refine lv_iload hx hb dL_law_506 (lv_at hl 8 rfl) ?_
  refine lv_bipush (v := 60) hx hb dL_law_508 (by decide) ?_
  refine lpS hx hb hml hts hown hE kwL_52 (c_low E w 60 60 H rfl (by decide) (by decide)) (by decide) rfl hl.1 rfl (Nat.le_of_ble_eq_true rfl) (by omega) (by omega) dL_law_510 ?_
  obtain ⟨d1, ed1⟩ : ∃ z, z = lw w 60 := ⟨_, rfl⟩
  have hd1 : d1 < 60 := by rw [ed1]; exact lw_lt (by omega)
  rw [← ed1]
  clear ed1
  refine lv_istore (lv' := [(12, .int (nI d1)), (0, .ref b), (1, .ref x), (2, .ref a2), (3, .ref a3), (4, .ref a4), (5, .ref a5), (6, .int (nI ts.length)), (7, .int (nI n)), (9, .int w), (11, .int 1)]) hx hb dL_law_513 hl (by decide) rfl (fun ls hl => ?_)
  refine lv_aload_n hx hb dL_law_515 rfl (lv_at hl 2 rfl) ?_
  refine lv_aload_n hx hb dL_law_516 rfl (lv_at hl 3 rfl) ?_
  refine lv_iload hx hb dL_law_517 (lv_at hl 0 rfl) ?_
  refine lv_iload hx hb dL_law_519 (lv_at hl 9 rfl) ?_
  refine lv_bipush (v := 6) hx hb dL_law_521 (by decide) ?_
  refine lv_ishr hx hb dL_law_523 ?_
  refine lv_bipush (v := 40) hx hb dL_law_524 (by decide) ?_
  refine lpS hx hb hml hts hown hE kwL_52 (c_low E (w >>> (6 &&& 31)) 40 40 H rfl (by decide) (by decide)) (by decide) rfl hl.1 rfl (Nat.le_of_ble_eq_true rfl) (by omega) (by omega) dL_law_526 ?_
  obtain ⟨f1, ef1⟩ : ∃ z, z = lw (w >>> (6 &&& 31)) 40 := ⟨_, rfl⟩
  have hf1 : f1 < 40 := by rw [ef1]; exact lw_lt (by omega)
  rw [← ef1]
  clear ef1
  obtain ⟨hGn, hzn⟩ := GJ.prs (d := d1) hGI.1 (by omega)
  have hVn := hGn.1
  have hzl2 := zc_le (prs h0 h1 (nI d1) ts).1
  have htn2 := hVn.tn
  have hle : (prs h0 h1 (nI d1) ts).1.length = ts.length := prs_len
  have hGT : ∀ tr ∈ ts, GT tr := fun tr ht => by obtain ⟨t, ht⟩ := List.mem_iff_getElem?.mp ht; exact (hGI.1.2.1 t tr ht).2.1
  have hop : (ow a2).1 = 4 := by rw [hA.2.2.1]
  refine lgS hx hb hml hts hown hB hE hS kwL_80 (c_isPressed E ow x h0 h1 fx ts a2 d1 f1 54 100 pf H hA.1 hV hK hGT hA.2.1.1 hop (fun t tr ht => (hGI.1.2.1 t tr ht).1) (by omega) (by omega) hK54 (by omega) (by decide)) (by decide) rfl hl.1 rfl (Nat.le_of_ble_eq_true rfl) (by omega) (by omega) dL_law_529 (fun H1 L1 hG hz1 hE hS => ?_)
  obtain ⟨ow, hA⟩ := hA.out hG
  refine lv_istore (lv' := [(11, .int 1), (12, .int (nI d1)), (0, .ref b), (1, .ref x), (2, .ref a2), (3, .ref a3), (4, .ref a4), (5, .ref a5), (6, .int (nI ts.length)), (7, .int (nI n)), (9, .int w)]) hx hb dL_law_532 hl (by decide) rfl (fun ls hl => ?_)
  refine lv_iconst (v := 0) hx hb dL_law_534 (by decide) ?_
  refine lv_istore (lv' := [(13, .int 0), (11, .int 1), (12, .int (nI d1)), (0, .ref b), (1, .ref x), (2, .ref a2), (3, .ref a3), (4, .ref a4), (5, .ref a5), (6, .int (nI ts.length)), (7, .int (nI n)), (9, .int w)]) hx hb dL_law_535 hl (by decide) rfl (fun ls hl => ?_)
  obtain ⟨cx, hcx⟩ : ∃ z, z = cells + (1100 + 4 * (prs h0 h1 (nI d1) ts).2.2.1) := ⟨_, rfl⟩
  obtain ⟨sx, hsx⟩ : ∃ z, z = slots + (6300 + 2 * (2 + (2 * 100 + 10)) * (prs h0 h1 (nI d1) ts).2.2.1) := ⟨_, rfl⟩
  rw [← hcx, ← hsx]
  have loop : ∀ (r i : Nat) (rg : Nat → Int32) (G : Heap) (locs : List Loc) (ls : Array Slot), i + r = ts.length → (∀ t, t < i → rg t = 0) → AH E ow x a2 a3 a4 a5 h0 h1 fx (prs h0 h1 (nI d1) ts).1 pf rg hf gf G → EV E s G → va_S (fr E) s.heap G locs → lv_has ls 16 [(0, .ref b), (1, .ref x), (2, .ref a2), (3, .ref a3), (4, .ref a4), (5, .ref a5), (6, .int (nI ts.length)), (7, .int (nI n)), (9, .int w), (11, .int 1), (13, .int (nI i))] → W p (eL E) e room_1 s m #[Value.ref b] below meth c G locs cx sx Q (F0 m 537 ls []) := by
    intro r
    induction r with
    | zero =>
      intro i rg G locs ls hi hz hA hE hS hl
      refine lv_iload hx hb dL_law_537 (lv_at hl 10 rfl) ?_
      refine lv_iload hx hb dL_law_539 (lv_at hl 6 rfl) ?_
      refine lv_icmp_ge (tgt := 555) hx hb dL_law_541 (by decide) (fun c1 => ?_) (fun c1 => ?_)
      rotate_left
      · exact absurd (nI_le (by omega) (by omega)) c1
      exact kk G locs _ _ _ ls hE hS ⟨ow, h0, h1, fx, (prs h0 h1 (nI d1) ts).1, pf, rg, hf, gf, hA, ⟨hGn, fun t tr ht => Or.inl (hz t (by have := lt_of_get ht; omega))⟩, hle, by omega, by omega⟩ (lv_sub hl [0, 1, 2, 3, 4, 5, 6, 7, 8, 9] rfl)
    | succ r ih =>
      intro i rg G locs ls hi hz hA hE hS hl
      refine lv_iload hx hb dL_law_537 (lv_at hl 10 rfl) ?_
      refine lv_iload hx hb dL_law_539 (lv_at hl 6 rfl) ?_
      refine lv_icmp_ge (tgt := 555) hx hb dL_law_541 (by decide) (fun c1 => ?_) (fun c1 => ?_)
      · exact absurd c1 (nI_ge (b := ts.length) (by omega) (by omega))
      refine lv_aload_n hx hb dL_law_544 rfl (lv_at hl 3 rfl) ?_
      refine lv_iload hx hb dL_law_545 (lv_at hl 10 rfl) ?_
      refine lv_iconst (v := 0) hx hb dL_law_547 (by decide) ?_
      refine asI (j := i) hx hb hE hS hA.2.1.2.1 hg3 rfl (by omega) (by decide) dL_law_548 (fun H2 L2 hO2 hz2 hq2 hE hS => ?_)
      have hA := hA.p3 hO2 hg3 hBF hq2
      refine lv_iinc (v := nI (i + 1)) (lv' := [(13, .int (nI (i + 1))), (0, .ref b), (1, .ref x), (2, .ref a2), (3, .ref a3), (4, .ref a4), (5, .ref a5), (6, .int (nI ts.length)), (7, .int (nI n)), (9, .int w), (11, .int 1)]) hx hb dL_law_549 hl (k := 10) rfl (nI_1 i) (by decide) rfl (fun ls hl => ?_)
      refine lv_goto (tgt := 537) hx hb dL_law_552 (by decide) ?_
      refine ih (i + 1) (upd rg i 0) H2 L2 ls (by omega) (fun t ht => ?_) hA hE hS (lv_sub hl [1, 2, 3, 4, 5, 6, 7, 8, 9, 10, 0] rfl)
      rcases Nat.eq_or_lt_of_le (Nat.le_of_lt_succ ht) with q9 | q9
      · rw [q9, upd_at]
      · rw [upd_ne (by omega)]; exact hz t q9
  exact loop ts.length 0 rf H1 L1 ls (by omega) (fun t ht => absurd ht (Nat.not_lt_zero t)) hA hE hS (lv_sub hl [3, 4, 5, 6, 7, 8, 9, 10, 11, 1, 0] rfl)

set_option maxRecDepth 100000 in
set_option maxHeartbeats 4000000 in
/-- all cash -/
theorem law_join {p : Program} {e : Env} {s : State} {m : MethodId} {below : List Frame} {meth : Method} {c : Code} {Q : State → Prop} {b n tn : Nat} {E : ET} {x a2 a3 a4 a5 cells slots C S : Nat} {H : Heap} {locs : List Loc} {ls : Array Slot} {w : Int32} (hC : LX p s m c b E a2 a3 a4 a5 n C S) (hE : EV E s H) (hS : va_S (fr E) s.heap H locs) (hI : LI E x a2 a3 a4 a5 (n + 1) tn cells slots (C + 1500) (S + 7000) H) (hl : lv_has ls 16 [(0, .ref b), (1, .ref x), (2, .ref a2), (3, .ref a3), (4, .ref a4), (5, .ref a5), (6, .int (nI tn)), (7, .int (nI n)), (9, .int w), (11, .int 1)])
    (kk : ∀ (H1 : Heap) (locs1 : List Loc) (cells1 slots1 tn1 : Nat) (ls1 : Array Slot), EV E s H1 → va_S (fr E) s.heap H1 locs1 → LI E x a2 a3 a4 a5 (n + 1) tn1 cells1 slots1 (C + 3000) (S + 13000) H1 → lv_has ls1 16 [(0, .ref b), (1, .ref x), (2, .ref a2), (3, .ref a3), (4, .ref a4), (5, .ref a5), (6, .int (nI tn1)), (7, .int (nI (n + 1)))] → W p (eL E) e room_1 s m #[Value.ref b] below meth c H1 locs1 cells1 slots1 Q (F0 m 35 ls1 [])) : W p (eL E) e room_1 s m #[Value.ref b] below meth c H locs cells slots Q (F0 m 555 ls []) := by
  obtain ⟨hx, hb, hml, hown, hts, hBE, ⟨hg2, hg3, hg4, hg5⟩, hn44, hC9, hS9⟩ := hC
  obtain ⟨ow, h0, h1, fx, ts, pf, rf, hf, gf, hA, hGI, hlen, hcl, hsl⟩ := hI
  subst hlen
  have hB : eB E ≤ s.heap.size := Nat.le_of_eq hBE
  have hBF := hE.2.2.1
  have hV := hGI.1.1
  have htn := hV.tn
  have hzl := zc_le ts
  obtain ⟨hK, hK54⟩ := hGI.1.bl (by omega)
  refine lv_iload hx hb dL_law_555 (lv_at hl 9 rfl) ?_
  refine lv_if_eq (tgt := 591) hx hb dL_law_557 (by decide) (fun c1 => ?_) (fun c1 => ?_)
  · exact absurd c1 (by decide)
  refine lv_aload_n hx hb dL_law_560 rfl (lv_at hl 1 rfl) ?_
  refine lv_aload_n hx hb dL_law_561 rfl (lv_at hl 2 rfl) ?_
  refine lv_iload hx hb dL_law_562 (lv_at hl 8 rfl) ?_
  refine lv_iconst (v := 3) hx hb dL_law_564 (by decide) ?_
  refine lv_ishr hx hb dL_law_565 ?_
  refine lv_bipush (v := 60) hx hb dL_law_566 (by decide) ?_
  refine lpS hx hb hml hts hown hE kwL_52 (c_low E (w >>> (3 &&& 31)) 60 60 H rfl (by decide) (by decide)) (by decide) rfl hl.1 rfl (Nat.le_of_ble_eq_true rfl) (by omega) (by omega) dL_law_568 ?_
  obtain ⟨a1, ea1⟩ : ∃ z, z = lw (w >>> (3 &&& 31)) 60 := ⟨_, rfl⟩
  have ha1 : a1 < 60 := by rw [ea1]; exact lw_lt (by omega)
  rw [← ea1]
  clear ea1
  refine lv_bipush (v := 60) hx hb dL_law_571 (by decide) ?_
  refine lv_iload hx hb dL_law_573 (lv_at hl 8 rfl) ?_
  refine lv_bipush (v := 9) hx hb dL_law_575 (by decide) ?_
  refine lv_ishr hx hb dL_law_577 ?_
  refine lv_sipush (v := 300) hx hb dL_law_578 (by decide) ?_
  refine lpS hx hb hml hts hown hE kwL_52 (c_low E (w >>> (9 &&& 31)) 300 300 H rfl (by decide) (by decide)) (by decide) rfl hl.1 rfl (Nat.le_of_ble_eq_true rfl) (by omega) (by omega) dL_law_581 ?_
  obtain ⟨b1, eb1⟩ : ∃ z, z = lw (w >>> (9 &&& 31)) 300 := ⟨_, rfl⟩
  have hb1 : b1 < 300 := by rw [eb1]; exact lw_lt (by omega)
  rw [← eb1]
  clear eb1
  refine lv_iadd hx hb dL_law_584 ?_
  rw [show 60 + nI b1 = nI (60 + b1) from nI_add 60 b1]
  have hGT : ∀ tr ∈ ts, HV tr := fun tr ht => by obtain ⟨t, ht⟩ := List.mem_iff_getElem?.mp ht; exact (hGI.1.2.1 t tr ht).2.1.2.1
  refine lgS hx hb hml hts hown hB hE hS kwL_84 (c_isCash E ow x h0 h1 fx ts a2 a1 (60 + b1) pf H hA.1 hV hK hGT hA.2.1.1 (fun t tr ht => (hGI.1.2.1 t tr ht).1) (by omega) (by omega) (by omega)) (by decide) rfl hl.1 rfl (Nat.le_of_ble_eq_true rfl) (by omega) (by omega) dL_law_585 (fun H1 L1 hG hz1 hE hS => ?_)
  have hG := hG.symm
  subst hG
  refine lv_if_ne (tgt := 593) hx hb dL_law_588 (by decide) (fun c2 => ?_) (fun c2 => ?_)
  rotate_left
  · exact absurd c2 (by decide)
  refine lv_iinc (v := nI (n + 1)) (lv' := [(7, .int (nI (n + 1))), (0, .ref b), (1, .ref x), (2, .ref a2), (3, .ref a3), (4, .ref a4), (5, .ref a5), (6, .int (nI ts.length)), (9, .int w), (11, .int 1)]) hx hb dL_law_593 hl (k := 7) rfl (nI_1 n) (by decide) rfl (fun ls hl => ?_)
  refine lv_goto (tgt := 35) hx hb dL_law_596 (by decide) ?_
  exact kk H L1 _ _ _ ls hE hS ⟨ow, h0, h1, fx, ts, pf, rf, hf, gf, hA, hGI, rfl, by omega, by omega⟩ (lv_sub hl [1, 2, 3, 4, 5, 6, 7, 0] rfl)
