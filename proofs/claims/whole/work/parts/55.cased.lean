set_option maxRecDepth 100000 in
set_option maxHeartbeats 4000000 in
/-- holiday -/
theorem lc_0 {p : Program} {e : Env} {s : State} {m : MethodId} {below : List Frame} {meth : Method} {c : Code} {Q : State → Prop} {b L n : Nat} {xs A : Nat → Int32} {E : ET} {x mo o cells slots : Nat} {H : Heap} {locs : List Loc} {ls : Array Slot} (hC : LX p s m c b L n xs A E o) (hE : EV E s H) (hS : va_S (fr E) s.heap H locs) (hI : LI E x mo o n cells slots H) (hl : lv_has ls 8 [(4, .int (nI (8 * n))), (0, .ref b), (1, .ref x), (2, .ref mo), (3, .ref o)])
    (kk : ∀ (H1 : Heap) (locs1 : List Loc) (cells1 slots1 : Nat) (ls1 : Array Slot), EV E s H1 → va_S (fr E) s.heap H1 locs1 → LI E x mo o (n + 1) cells1 slots1 H1 → lv_has ls1 8 [(4, .int (nI (8 * n))), (0, .ref b), (1, .ref x), (2, .ref mo), (3, .ref o)] → W p (eL E) e room_1 s m #[Value.ref b] below meth c H1 locs1 cells1 slots1 Q (F0 m 1599 ls1 [])) : W p (eL E) e room_1 s m #[Value.ref b] below meth c H locs cells slots Q (F0 m 140 ls []) := by
  obtain ⟨hx, hb, hml, hown, hts, hBE, hXs, hbl, hgo, hnL, hL, hA⟩ := hC
  obtain ⟨ow, h0, h1, fx, ts, B, c9, f, hX, hMW, hJ, ho, hV, hBl, hcl, hsl⟩ := hI
  have hB : eB E ≤ s.heap.size := Nat.le_of_eq hBE
  have hbA : ¬ fr E b := by show ¬ eB E ≤ b; omega
  have hBF := hE.2.2.1
  have htn := hV.tn
  have hzl := zc_le ts
  have hbl9 := hMW.bl
  have hK : BL ts := fun tr ht => by have := hbl9 tr ht; omega
  refine lv_aload_n hx hb dL_law_140 rfl (lv_at hl 2 rfl) ?_
  refine lv_aload_n hx hb dL_law_141 rfl (lv_at hl 1 rfl) ?_
  refine lv_iload hx hb dL_law_142 (lv_at hl 0 rfl) ?_
  refine lv_iconst (v := 1) hx hb dL_law_144 (by decide) ?_
  refine lv_iadd hx hb dL_law_145 ?_
  refine lsd (k := 1) hx hb hXs hbl hbA hS hnL hL hA (by decide) (nI_add (8 * n) 1) dL_law_146 ?_
  refine lv_aload_n hx hb dL_law_147 rfl (lv_at hl 1 rfl) ?_
  refine lv_iload hx hb dL_law_148 (lv_at hl 0 rfl) ?_
  refine lv_iconst (v := 2) hx hb dL_law_150 (by decide) ?_
  refine lv_iadd hx hb dL_law_151 ?_
  refine lsd (k := 2) hx hb hXs hbl hbA hS hnL hL hA (by decide) (nI_add (8 * n) 2) dL_law_152 ?_
  refine lv_aload_n hx hb dL_law_153 rfl (lv_at hl 4 rfl) ?_
  refine lgW hx hb hml hts hown hB hE hS kwX_87 (w_holiday E ow x o h0 h1 fx ts f (A 1) (A 2) H hX hV hK hJ ho hgo) (by decide) rfl hl.1 rfl (Nat.le_of_ble_eq_true rfl) (by omega) (by omega) dL_law_154 (fun v1 H1 L1 ho1 hz1 hE hS1 => ?_)
  obtain ⟨hv1, hw1⟩ := ho1
  subst hv1
  dsimp only [Option.toList, List.nil_append, List.cons_append]
  rcases hw1 with ⟨hcd, hw⟩ | ⟨hcd, hw⟩
  · obtain ⟨ow1, f1, hX1, hM1, hJ1, ho9, -⟩ := hw.go hMW hJ ho
    refine lv_istore (lv' := [(5, .int (nI (cdHol h0 h1 (A 1) (A 2)))), (4, .int (nI (8 * n))), (0, .ref b), (1, .ref x), (2, .ref mo), (3, .ref o)]) hx hb dL_law_157 hl (by decide) rfl (fun ls hl => ?_)
    refine lv_aload_n hx hb dL_law_159 rfl (lv_at hl 4 rfl) ?_
    refine lv_aload_n hx hb dL_law_160 rfl (lv_at hl 2 rfl) ?_
    refine lv_iload hx hb dL_law_161 (lv_at hl 1 rfl) ?_
    refine lv_iconst (v := 1) hx hb dL_law_163 (by decide) ?_
    refine lv_iadd hx hb dL_law_164 ?_
    refine lsd (k := 1) hx hb hXs hbl hbA hS1 hnL hL hA (by decide) (nI_add (8 * n) 1) dL_law_165 ?_
    refine lv_aload_n hx hb dL_law_166 rfl (lv_at hl 2 rfl) ?_
    refine lv_iload hx hb dL_law_167 (lv_at hl 1 rfl) ?_
    refine lv_iconst (v := 2) hx hb dL_law_169 (by decide) ?_
    refine lv_iadd hx hb dL_law_170 ?_
    refine lsd (k := 2) hx hb hXs hbl hbA hS1 hnL hL hA (by decide) (nI_add (8 * n) 2) dL_law_171 ?_
    obtain ⟨sc, ad, ar, hMR, hMI, hsc⟩ := hM1
    refine lgV hx hb hml hts hown hB hE hS1 kwL_92 (c_mhol E ow1 mo sc ad ar h0 h1 fx ts B (A 1) (A 2) H1 hMR hMI hV) hMR.1.1 rfl (by decide) rfl hl.1 rfl (Nat.le_of_ble_eq_true rfl) (by omega) (by omega) dL_law_172 (fun H2 L2 hG2 hz2 hE hS2 => ?_)
    have hG2 := (hG2.resolve_right (fun q => hcd q.1)).2
    obtain ⟨hX2, hM2, hJ2⟩ := hG2.go hX1 hJ1 ho9 (old9 hB hS1 hS2) hBF
    refine lv_istore (lv' := [(6, .int (if cdHol h0 h1 (A 1) (A 2) = 0 then (nI ((if (A 1) = 0 then h0 else h1).length + 1)) else 0)), (5, .int (nI (cdHol h0 h1 (A 1) (A 2)))), (4, .int (nI (8 * n))), (0, .ref b), (1, .ref x), (2, .ref mo), (3, .ref o)]) hx hb dL_law_175 hl (by decide) rfl (fun ls hl => ?_)
    refine lv_aload_n hx hb dL_law_177 rfl (lv_at hl 5 rfl) ?_
    obtain ⟨sc2, ad2, ar2, hMR2, hMI2, hsc2⟩ := id hM2
    refine lpV hx hb hml hts hown hE kwL_93 (c_mthrown E mo sc2 ad2 ar2 H2 hMR2.1) hMR2.1.1 rfl (by decide) rfl hl.1 rfl (Nat.le_of_ble_eq_true rfl) (by omega) (by omega) dL_law_178 ?_
    rw [hsc2]
    refine lv_iload hx hb dL_law_181 (lv_at hl 1 rfl) ?_
    refine lv_icmp_eq (tgt := 188) hx hb dL_law_183 (by decide) (fun c5 => ?_) (fun c5 => ?_)
    rotate_left
    · exact absurd rfl c5
    refine lv_iload hx hb dL_law_188 (lv_at hl 1 rfl) ?_
    refine lv_if_ne (tgt := 205) hx hb dL_law_190 (by decide) (fun c6 => ?_) (fun c6 => ?_)
    rotate_left
    · exact absurd c6 (cd_ne (cdHol_le _ _ _ _) hcd)
    refine lv_goto (tgt := 1599) hx hb dL_law_205 (by decide) ?_
    exact kk H2 L2 _ _ ls hE hS2 ⟨ow1, h0, h1, fx, ts, B, cdHol h0 h1 (A 1) (A 2), f1, hX2, hM2, hJ2, ho9, hV, by omega, by omega, by omega⟩ (lv_sub hl [2, 3, 4, 5, 6] rfl)
  · obtain ⟨ow1, f1, hX1, hM1, hJ1, ho9, hP1⟩ := hw.go hMW hJ ho
    refine lv_istore (lv' := [(5, .int (nI (cdHol h0 h1 (A 1) (A 2)))), (4, .int (nI (8 * n))), (0, .ref b), (1, .ref x), (2, .ref mo), (3, .ref o)]) hx hb dL_law_157 hl (by decide) rfl (fun ls hl => ?_)
    refine lv_aload_n hx hb dL_law_159 rfl (lv_at hl 4 rfl) ?_
    refine lv_aload_n hx hb dL_law_160 rfl (lv_at hl 2 rfl) ?_
    refine lv_iload hx hb dL_law_161 (lv_at hl 1 rfl) ?_
    refine lv_iconst (v := 1) hx hb dL_law_163 (by decide) ?_
    refine lv_iadd hx hb dL_law_164 ?_
    refine lsd (k := 1) hx hb hXs hbl hbA hS1 hnL hL hA (by decide) (nI_add (8 * n) 1) dL_law_165 ?_
    refine lv_aload_n hx hb dL_law_166 rfl (lv_at hl 2 rfl) ?_
    refine lv_iload hx hb dL_law_167 (lv_at hl 1 rfl) ?_
    refine lv_iconst (v := 2) hx hb dL_law_169 (by decide) ?_
    refine lv_iadd hx hb dL_law_170 ?_
    refine lsd (k := 2) hx hb hXs hbl hbA hS1 hnL hL hA (by decide) (nI_add (8 * n) 2) dL_law_171 ?_
    obtain ⟨sc, ad, ar, hMR, hMI, hsc⟩ := hM1
    refine lgV hx hb hml hts hown hB hE hS1 kwL_92 (c_mhol E ow1 mo sc ad ar h0 h1 fx ts B (A 1) (A 2) H1 hMR hMI hV) hMR.1.1 rfl (by decide) rfl hl.1 rfl (Nat.le_of_ble_eq_true rfl) (by omega) (by omega) dL_law_172 (fun H2 L2 hG2 hz2 hE hS2 => ?_)
    have hG2 := (hG2.resolve_left (fun q => q.1 hcd)).2
    obtain ⟨hX2, hM2, hJ2⟩ := hG2.go hX1 hJ1 ho9 (old9 hB hS1 hS2) hBF
    have hVn := sv_hol hV hcd
    refine lv_istore (lv' := [(6, .int (if cdHol h0 h1 (A 1) (A 2) = 0 then (nI ((if (A 1) = 0 then h0 else h1).length + 1)) else 0)), (5, .int (nI (cdHol h0 h1 (A 1) (A 2)))), (4, .int (nI (8 * n))), (0, .ref b), (1, .ref x), (2, .ref mo), (3, .ref o)]) hx hb dL_law_175 hl (by decide) rfl (fun ls hl => ?_)
    refine lv_aload_n hx hb dL_law_177 rfl (lv_at hl 5 rfl) ?_
    obtain ⟨sc2, ad2, ar2, hMR2, hMI2, hsc2⟩ := id hM2
    refine lpV hx hb hml hts hown hE kwL_93 (c_mthrown E mo sc2 ad2 ar2 H2 hMR2.1) hMR2.1.1 rfl (by decide) rfl hl.1 rfl (Nat.le_of_ble_eq_true rfl) (by omega) (by omega) dL_law_178 ?_
    rw [hsc2]
    refine lv_iload hx hb dL_law_181 (lv_at hl 1 rfl) ?_
    refine lv_icmp_eq (tgt := 188) hx hb dL_law_183 (by decide) (fun c5 => ?_) (fun c5 => ?_)
    rotate_left
    · exact absurd (by rw [hcd]) c5
    refine lv_iload hx hb dL_law_188 (lv_at hl 1 rfl) ?_
    refine lv_if_ne (tgt := 205) hx hb dL_law_190 (by decide) (fun c6 => ?_) (fun c6 => ?_)
    · exact absurd (by rw [hcd]; rfl) c6
    refine lv_aload_n hx hb dL_law_193 rfl (lv_at hl 6 rfl) ?_
    refine lv_iconst (v := 0) hx hb dL_law_194 (by decide) ?_
    refine aJ0 hx hb hE hJ2 dL_law_195 ?_
    refine lv_iload hx hb dL_law_196 (lv_at hl 0 rfl) ?_
    refine lv_i2l hx hb dL_law_198 rfl ?_
    refine W.lcmp hx hb dL_law_199 ?_
    refine lv_if_eq (tgt := 205) hx hb dL_law_200 (by decide) (fun c7 => ?_) (fun c7 => ?_)
    rotate_left
    · exact absurd (lcmp_eq0.mpr (by rw [if_pos hcd]; exact hP1)) c7
    refine lv_goto (tgt := 1599) hx hb dL_law_205 (by decide) ?_
    exact kk H2 L2 _ _ ls hE hS2 ⟨ow1, (if A 1 = 0 then h0 ++ [(A 2, A 1)] else h0), (if A 1 = 0 then h1 else h1 ++ [(A 2, A 1)]), fx, ts, B, 0, f1, hX2, hM2, hJ2, ho9, hVn, by omega, by omega, by omega⟩ (lv_sub hl [2, 3, 4, 5, 6] rfl)

set_option maxRecDepth 100000 in
set_option maxHeartbeats 4000000 in
/-- fix -/
theorem lc_3 {p : Program} {e : Env} {s : State} {m : MethodId} {below : List Frame} {meth : Method} {c : Code} {Q : State → Prop} {b L n : Nat} {xs A : Nat → Int32} {E : ET} {x mo o cells slots : Nat} {H : Heap} {locs : List Loc} {ls : Array Slot} (hC : LX p s m c b L n xs A E o) (hE : EV E s H) (hS : va_S (fr E) s.heap H locs) (hI : LI E x mo o n cells slots H) (hl : lv_has ls 8 [(4, .int (nI (8 * n))), (0, .ref b), (1, .ref x), (2, .ref mo), (3, .ref o)])
    (kk : ∀ (H1 : Heap) (locs1 : List Loc) (cells1 slots1 : Nat) (ls1 : Array Slot), EV E s H1 → va_S (fr E) s.heap H1 locs1 → LI E x mo o (n + 1) cells1 slots1 H1 → lv_has ls1 8 [(4, .int (nI (8 * n))), (0, .ref b), (1, .ref x), (2, .ref mo), (3, .ref o)] → W p (eL E) e room_1 s m #[Value.ref b] below meth c H1 locs1 cells1 slots1 Q (F0 m 1599 ls1 [])) : W p (eL E) e room_1 s m #[Value.ref b] below meth c H locs cells slots Q (F0 m 327 ls []) := by
  obtain ⟨hx, hb, hml, hown, hts, hBE, hXs, hbl, hgo, hnL, hL, hA⟩ := hC
  obtain ⟨ow, h0, h1, fx, ts, B, c9, f, hX, hMW, hJ, ho, hV, hBl, hcl, hsl⟩ := hI
  have hB : eB E ≤ s.heap.size := Nat.le_of_eq hBE
  have hbA : ¬ fr E b := by show ¬ eB E ≤ b; omega
  have hBF := hE.2.2.1
  have htn := hV.tn
  have hzl := zc_le ts
  have hbl9 := hMW.bl
  have hK : BL ts := fun tr ht => by have := hbl9 tr ht; omega
  have hfx := big_fx hV
  refine lv_aload_n hx hb dL_law_327 rfl (lv_at hl 2 rfl) ?_
  refine lv_aload_n hx hb dL_law_328 rfl (lv_at hl 1 rfl) ?_
  refine lv_iload hx hb dL_law_329 (lv_at hl 0 rfl) ?_
  refine lv_iconst (v := 1) hx hb dL_law_331 (by decide) ?_
  refine lv_iadd hx hb dL_law_332 ?_
  refine lsd (k := 1) hx hb hXs hbl hbA hS hnL hL hA (by decide) (nI_add (8 * n) 1) dL_law_333 ?_
  refine lv_aload_n hx hb dL_law_334 rfl (lv_at hl 1 rfl) ?_
  refine lv_iload hx hb dL_law_335 (lv_at hl 0 rfl) ?_
  refine lv_iconst (v := 2) hx hb dL_law_337 (by decide) ?_
  refine lv_iadd hx hb dL_law_338 ?_
  refine lsd (k := 2) hx hb hXs hbl hbA hS hnL hL hA (by decide) (nI_add (8 * n) 2) dL_law_339 ?_
  refine lv_aload_n hx hb dL_law_340 rfl (lv_at hl 4 rfl) ?_
  refine lgW hx hb hml hts hown hB hE hS kwX_104 (w_fix E ow x o h0 h1 fx ts f (A 1) (A 2) H hX hV hK hJ ho hgo) (by decide) rfl hl.1 rfl (Nat.le_of_ble_eq_true rfl) (by omega) (by omega) dL_law_341 (fun v1 H1 L1 ho1 hz1 hE hS1 => ?_)
  obtain ⟨hv1, hw1⟩ := ho1
  subst hv1
  dsimp only [Option.toList, List.nil_append, List.cons_append]
  rcases hw1 with ⟨hcd, hw⟩ | ⟨hcd, hw⟩
  · obtain ⟨ow1, f1, hX1, hM1, hJ1, ho9, -⟩ := hw.go hMW hJ ho
    refine lv_istore (lv' := [(5, .int (nI (cdFix fx (A 1) (A 2)))), (4, .int (nI (8 * n))), (0, .ref b), (1, .ref x), (2, .ref mo), (3, .ref o)]) hx hb dL_law_344 hl (by decide) rfl (fun ls hl => ?_)
    refine lv_aload_n hx hb dL_law_346 rfl (lv_at hl 4 rfl) ?_
    refine lv_aload_n hx hb dL_law_347 rfl (lv_at hl 2 rfl) ?_
    refine lv_iload hx hb dL_law_348 (lv_at hl 1 rfl) ?_
    refine lv_iconst (v := 1) hx hb dL_law_350 (by decide) ?_
    refine lv_iadd hx hb dL_law_351 ?_
    refine lsd (k := 1) hx hb hXs hbl hbA hS1 hnL hL hA (by decide) (nI_add (8 * n) 1) dL_law_352 ?_
    refine lv_aload_n hx hb dL_law_353 rfl (lv_at hl 2 rfl) ?_
    refine lv_iload hx hb dL_law_354 (lv_at hl 1 rfl) ?_
    refine lv_iconst (v := 2) hx hb dL_law_356 (by decide) ?_
    refine lv_iadd hx hb dL_law_357 ?_
    refine lsd (k := 2) hx hb hXs hbl hbA hS1 hnL hL hA (by decide) (nI_add (8 * n) 2) dL_law_358 ?_
    obtain ⟨sc, ad, ar, hMR, hMI, hsc⟩ := hM1
    refine lgV hx hb hml hts hown hB hE hS1 kwL_106 (c_mfix E ow1 mo sc ad ar h0 h1 fx ts B (A 1) (A 2) H1 hMR hMI hV) hMR.1.1 rfl (by decide) rfl hl.1 rfl (Nat.le_of_ble_eq_true rfl) (by omega) (by omega) dL_law_359 (fun H2 L2 hG2 hz2 hE hS2 => ?_)
    have hG2 := (hG2.resolve_right (fun q => hcd q.1)).2
    obtain ⟨hX2, hM2, hJ2⟩ := hG2.go hX1 hJ1 ho9 (old9 hB hS1 hS2) hBF
    refine lv_istore (lv' := [(6, .int (if cdFix fx (A 1) (A 2) = 0 then (nI (dPut fx (A 1) (A 2)).length) else 0)), (5, .int (nI (cdFix fx (A 1) (A 2)))), (4, .int (nI (8 * n))), (0, .ref b), (1, .ref x), (2, .ref mo), (3, .ref o)]) hx hb dL_law_362 hl (by decide) rfl (fun ls hl => ?_)
    refine lv_aload_n hx hb dL_law_364 rfl (lv_at hl 5 rfl) ?_
    obtain ⟨sc2, ad2, ar2, hMR2, hMI2, hsc2⟩ := id hM2
    refine lpV hx hb hml hts hown hE kwL_93 (c_mthrown E mo sc2 ad2 ar2 H2 hMR2.1) hMR2.1.1 rfl (by decide) rfl hl.1 rfl (Nat.le_of_ble_eq_true rfl) (by omega) (by omega) dL_law_365 ?_
    rw [hsc2]
    refine lv_iload hx hb dL_law_368 (lv_at hl 1 rfl) ?_
    refine lv_icmp_eq (tgt := 375) hx hb dL_law_370 (by decide) (fun c5 => ?_) (fun c5 => ?_)
    rotate_left
    · exact absurd rfl c5
    refine lv_iload hx hb dL_law_375 (lv_at hl 1 rfl) ?_
    refine lv_if_ne (tgt := 392) hx hb dL_law_377 (by decide) (fun c6 => ?_) (fun c6 => ?_)
    rotate_left
    · exact absurd c6 (cd_ne (Nat.le_trans (cdFix_le _ _ _) (by decide)) hcd)
    refine lv_goto (tgt := 1599) hx hb dL_law_392 (by decide) ?_
    exact kk H2 L2 _ _ ls hE hS2 ⟨ow1, h0, h1, fx, ts, B, cdFix fx (A 1) (A 2), f1, hX2, hM2, hJ2, ho9, hV, by omega, by omega, by omega⟩ (lv_sub hl [2, 3, 4, 5, 6] rfl)
  · obtain ⟨ow1, f1, hX1, hM1, hJ1, ho9, hP1⟩ := hw.go hMW hJ ho
    refine lv_istore (lv' := [(5, .int (nI (cdFix fx (A 1) (A 2)))), (4, .int (nI (8 * n))), (0, .ref b), (1, .ref x), (2, .ref mo), (3, .ref o)]) hx hb dL_law_344 hl (by decide) rfl (fun ls hl => ?_)
    refine lv_aload_n hx hb dL_law_346 rfl (lv_at hl 4 rfl) ?_
    refine lv_aload_n hx hb dL_law_347 rfl (lv_at hl 2 rfl) ?_
    refine lv_iload hx hb dL_law_348 (lv_at hl 1 rfl) ?_
    refine lv_iconst (v := 1) hx hb dL_law_350 (by decide) ?_
    refine lv_iadd hx hb dL_law_351 ?_
    refine lsd (k := 1) hx hb hXs hbl hbA hS1 hnL hL hA (by decide) (nI_add (8 * n) 1) dL_law_352 ?_
    refine lv_aload_n hx hb dL_law_353 rfl (lv_at hl 2 rfl) ?_
    refine lv_iload hx hb dL_law_354 (lv_at hl 1 rfl) ?_
    refine lv_iconst (v := 2) hx hb dL_law_356 (by decide) ?_
    refine lv_iadd hx hb dL_law_357 ?_
    refine lsd (k := 2) hx hb hXs hbl hbA hS1 hnL hL hA (by decide) (nI_add (8 * n) 2) dL_law_358 ?_
    obtain ⟨sc, ad, ar, hMR, hMI, hsc⟩ := hM1
    refine lgV hx hb hml hts hown hB hE hS1 kwL_106 (c_mfix E ow1 mo sc ad ar h0 h1 fx ts B (A 1) (A 2) H1 hMR hMI hV) hMR.1.1 rfl (by decide) rfl hl.1 rfl (Nat.le_of_ble_eq_true rfl) (by omega) (by omega) dL_law_359 (fun H2 L2 hG2 hz2 hE hS2 => ?_)
    have hG2 := (hG2.resolve_left (fun q => q.1 hcd)).2
    obtain ⟨hX2, hM2, hJ2⟩ := hG2.go hX1 hJ1 ho9 (old9 hB hS1 hS2) hBF
    have hVn := sv_fix hV hcd
    refine lv_istore (lv' := [(6, .int (if cdFix fx (A 1) (A 2) = 0 then (nI (dPut fx (A 1) (A 2)).length) else 0)), (5, .int (nI (cdFix fx (A 1) (A 2)))), (4, .int (nI (8 * n))), (0, .ref b), (1, .ref x), (2, .ref mo), (3, .ref o)]) hx hb dL_law_362 hl (by decide) rfl (fun ls hl => ?_)
    refine lv_aload_n hx hb dL_law_364 rfl (lv_at hl 5 rfl) ?_
    obtain ⟨sc2, ad2, ar2, hMR2, hMI2, hsc2⟩ := id hM2
    refine lpV hx hb hml hts hown hE kwL_93 (c_mthrown E mo sc2 ad2 ar2 H2 hMR2.1) hMR2.1.1 rfl (by decide) rfl hl.1 rfl (Nat.le_of_ble_eq_true rfl) (by omega) (by omega) dL_law_365 ?_
    rw [hsc2]
    refine lv_iload hx hb dL_law_368 (lv_at hl 1 rfl) ?_
    refine lv_icmp_eq (tgt := 375) hx hb dL_law_370 (by decide) (fun c5 => ?_) (fun c5 => ?_)
    rotate_left
    · exact absurd (by rw [hcd]) c5
    refine lv_iload hx hb dL_law_375 (lv_at hl 1 rfl) ?_
    refine lv_if_ne (tgt := 392) hx hb dL_law_377 (by decide) (fun c6 => ?_) (fun c6 => ?_)
    · exact absurd (by rw [hcd]; rfl) c6
    refine lv_aload_n hx hb dL_law_380 rfl (lv_at hl 6 rfl) ?_
    refine lv_iconst (v := 0) hx hb dL_law_381 (by decide) ?_
    refine aJ0 hx hb hE hJ2 dL_law_382 ?_
    refine lv_iload hx hb dL_law_383 (lv_at hl 0 rfl) ?_
    refine lv_i2l hx hb dL_law_385 rfl ?_
    refine W.lcmp hx hb dL_law_386 ?_
    refine lv_if_eq (tgt := 392) hx hb dL_law_387 (by decide) (fun c7 => ?_) (fun c7 => ?_)
    rotate_left
    · exact absurd (lcmp_eq0.mpr (by rw [if_pos hcd]; exact hP1)) c7
    refine lv_goto (tgt := 1599) hx hb dL_law_392 (by decide) ?_
    exact kk H2 L2 _ _ ls hE hS2 ⟨ow1, h0, h1, dPut fx (A 1) (A 2), ts, B, 0, f1, hX2, hM2, hJ2, ho9, hVn, by omega, by omega, by omega⟩ (lv_sub hl [2, 3, 4, 5, 6] rfl)

set_option maxRecDepth 100000 in
set_option maxHeartbeats 4000000 in
/-- setTerms -/
theorem lc_6 {p : Program} {e : Env} {s : State} {m : MethodId} {below : List Frame} {meth : Method} {c : Code} {Q : State → Prop} {b L n : Nat} {xs A : Nat → Int32} {E : ET} {x mo o cells slots : Nat} {H : Heap} {locs : List Loc} {ls : Array Slot} (hC : LX p s m c b L n xs A E o) (hE : EV E s H) (hS : va_S (fr E) s.heap H locs) (hI : LI E x mo o n cells slots H) (hl : lv_has ls 8 [(4, .int (nI (8 * n))), (0, .ref b), (1, .ref x), (2, .ref mo), (3, .ref o)])
    (kk : ∀ (H1 : Heap) (locs1 : List Loc) (cells1 slots1 : Nat) (ls1 : Array Slot), EV E s H1 → va_S (fr E) s.heap H1 locs1 → LI E x mo o (n + 1) cells1 slots1 H1 → lv_has ls1 8 [(4, .int (nI (8 * n))), (0, .ref b), (1, .ref x), (2, .ref mo), (3, .ref o)] → W p (eL E) e room_1 s m #[Value.ref b] below meth c H1 locs1 cells1 slots1 Q (F0 m 1599 ls1 [])) : W p (eL E) e room_1 s m #[Value.ref b] below meth c H locs cells slots Q (F0 m 599 ls []) := by
  obtain ⟨hx, hb, hml, hown, hts, hBE, hXs, hbl, hgo, hnL, hL, hA⟩ := hC
  obtain ⟨ow, h0, h1, fx, ts, B, c9, f, hX, hMW, hJ, ho, hV, hBl, hcl, hsl⟩ := hI
  have hB : eB E ≤ s.heap.size := Nat.le_of_eq hBE
  have hbA : ¬ fr E b := by show ¬ eB E ≤ b; omega
  have hBF := hE.2.2.1
  have htn := hV.tn
  have hzl := zc_le ts
  have hbl9 := hMW.bl
  have hK : BL ts := fun tr ht => by have := hbl9 tr ht; omega
  refine lv_aload_n hx hb dL_law_599 rfl (lv_at hl 2 rfl) ?_
  refine lv_aload_n hx hb dL_law_600 rfl (lv_at hl 1 rfl) ?_
  refine lv_iload hx hb dL_law_601 (lv_at hl 0 rfl) ?_
  refine lv_iconst (v := 1) hx hb dL_law_603 (by decide) ?_
  refine lv_iadd hx hb dL_law_604 ?_
  refine lsd (k := 1) hx hb hXs hbl hbA hS hnL hL hA (by decide) (nI_add (8 * n) 1) dL_law_605 ?_
  refine lv_aload_n hx hb dL_law_606 rfl (lv_at hl 1 rfl) ?_
  refine lv_iload hx hb dL_law_607 (lv_at hl 0 rfl) ?_
  refine lv_iconst (v := 2) hx hb dL_law_609 (by decide) ?_
  refine lv_iadd hx hb dL_law_610 ?_
  refine lsd (k := 2) hx hb hXs hbl hbA hS hnL hL hA (by decide) (nI_add (8 * n) 2) dL_law_611 ?_
  refine lv_aload_n hx hb dL_law_612 rfl (lv_at hl 1 rfl) ?_
  refine lv_iload hx hb dL_law_613 (lv_at hl 0 rfl) ?_
  refine lv_iconst (v := 3) hx hb dL_law_615 (by decide) ?_
  refine lv_iadd hx hb dL_law_616 ?_
  refine lsd (k := 3) hx hb hXs hbl hbA hS hnL hL hA (by decide) (nI_add (8 * n) 3) dL_law_617 ?_
  refine lv_aload_n hx hb dL_law_618 rfl (lv_at hl 1 rfl) ?_
  refine lv_iload hx hb dL_law_619 (lv_at hl 0 rfl) ?_
  refine lv_iconst (v := 4) hx hb dL_law_621 (by decide) ?_
  refine lv_iadd hx hb dL_law_622 ?_
  refine lsd (k := 4) hx hb hXs hbl hbA hS hnL hL hA (by decide) (nI_add (8 * n) 4) dL_law_623 ?_
  refine lgW hx hb hml hts hown hB hE hS kwX_114 (w_setTerms E ow x o h0 h1 fx ts f (A 1) (A 2) (A 3) (A 4) H hX hV hK hJ ho hgo) (by decide) rfl hl.1 rfl (Nat.le_of_ble_eq_true rfl) (by omega) (by omega) dL_law_624 (fun v1 H1 L1 ho1 hz1 hE hS1 => ?_)
  obtain ⟨hv1, hw1⟩ := ho1
  subst hv1
  dsimp only [Option.toList, List.nil_append, List.cons_append]
  rcases hw1 with ⟨hcd, hw⟩ | ⟨hcd, hw⟩
  · obtain ⟨ow1, f1, hX1, hM1, hJ1, ho9, -⟩ := hw.go hMW hJ ho
    refine lv_istore (lv' := [(5, .int (nI (cdSet ts (A 1) (A 2) (A 3) (A 4)))), (4, .int (nI (8 * n))), (0, .ref b), (1, .ref x), (2, .ref mo), (3, .ref o)]) hx hb dL_law_627 hl (by decide) rfl (fun ls hl => ?_)
    refine lv_aload_n hx hb dL_law_629 rfl (lv_at hl 4 rfl) ?_
    refine lv_aload_n hx hb dL_law_630 rfl (lv_at hl 2 rfl) ?_
    refine lv_iload hx hb dL_law_631 (lv_at hl 1 rfl) ?_
    refine lv_iconst (v := 1) hx hb dL_law_633 (by decide) ?_
    refine lv_iadd hx hb dL_law_634 ?_
    refine lsd (k := 1) hx hb hXs hbl hbA hS1 hnL hL hA (by decide) (nI_add (8 * n) 1) dL_law_635 ?_
    refine lv_aload_n hx hb dL_law_636 rfl (lv_at hl 2 rfl) ?_
    refine lv_iload hx hb dL_law_637 (lv_at hl 1 rfl) ?_
    refine lv_iconst (v := 2) hx hb dL_law_639 (by decide) ?_
    refine lv_iadd hx hb dL_law_640 ?_
    refine lsd (k := 2) hx hb hXs hbl hbA hS1 hnL hL hA (by decide) (nI_add (8 * n) 2) dL_law_641 ?_
    refine lv_aload_n hx hb dL_law_642 rfl (lv_at hl 2 rfl) ?_
    refine lv_iload hx hb dL_law_643 (lv_at hl 1 rfl) ?_
    refine lv_iconst (v := 3) hx hb dL_law_645 (by decide) ?_
    refine lv_iadd hx hb dL_law_646 ?_
    refine lsd (k := 3) hx hb hXs hbl hbA hS1 hnL hL hA (by decide) (nI_add (8 * n) 3) dL_law_647 ?_
    refine lv_aload_n hx hb dL_law_648 rfl (lv_at hl 2 rfl) ?_
    refine lv_iload hx hb dL_law_649 (lv_at hl 1 rfl) ?_
    refine lv_iconst (v := 4) hx hb dL_law_651 (by decide) ?_
    refine lv_iadd hx hb dL_law_652 ?_
    refine lsd (k := 4) hx hb hXs hbl hbA hS1 hnL hL hA (by decide) (nI_add (8 * n) 4) dL_law_653 ?_
    obtain ⟨sc, ad, ar, hMR, hMI, hsc⟩ := hM1
    refine lgVU hx hb hml hts hown hB hE hS1 kwL_117 (c_mset E ow1 mo sc ad ar h0 h1 fx ts B (A 1) (A 2) (A 3) (A 4) H1 hMR hMI hV) hMR.1.1 rfl (by decide) rfl hl.1 rfl (Nat.le_of_ble_eq_true rfl) (by omega) (by omega) dL_law_654 (fun H2 L2 hG2 hz2 hE hS2 => ?_)
    have hG2 := (hG2.resolve_right (fun q => hcd q.1)).2
    obtain ⟨hX2, hM2, hJ2⟩ := hG2.go hX1 hJ1 ho9 (old9 hB hS1 hS2) hBF
    refine lv_aload_n hx hb dL_law_657 rfl (lv_at hl 4 rfl) ?_
    obtain ⟨sc2, ad2, ar2, hMR2, hMI2, hsc2⟩ := id hM2
    refine lpV hx hb hml hts hown hE kwL_93 (c_mthrown E mo sc2 ad2 ar2 H2 hMR2.1) hMR2.1.1 rfl (by decide) rfl hl.1 rfl (Nat.le_of_ble_eq_true rfl) (by omega) (by omega) dL_law_658 ?_
    rw [hsc2]
    refine lv_iload hx hb dL_law_661 (lv_at hl 0 rfl) ?_
    refine lv_icmp_eq (tgt := 668) hx hb dL_law_663 (by decide) (fun c5 => ?_) (fun c5 => ?_)
    rotate_left
    · exact absurd rfl c5
    refine lv_goto (tgt := 1599) hx hb dL_law_668 (by decide) ?_
    exact kk H2 L2 _ _ ls hE hS2 ⟨ow1, h0, h1, fx, ts, B, cdSet ts (A 1) (A 2) (A 3) (A 4), f1, hX2, hM2, hJ2, ho9, hV, by omega, by omega, by omega⟩ (lv_sub hl [1, 2, 3, 4, 5] rfl)
  · obtain ⟨tr, i9, et, ht, hw⟩ := hw
    obtain ⟨ow1, f1, hX1, hM1, hJ1, ho9, -⟩ := hw.go hMW hJ ho
    refine lv_istore (lv' := [(5, .int (nI (cdSet ts (A 1) (A 2) (A 3) (A 4)))), (4, .int (nI (8 * n))), (0, .ref b), (1, .ref x), (2, .ref mo), (3, .ref o)]) hx hb dL_law_627 hl (by decide) rfl (fun ls hl => ?_)
    refine lv_aload_n hx hb dL_law_629 rfl (lv_at hl 4 rfl) ?_
    refine lv_aload_n hx hb dL_law_630 rfl (lv_at hl 2 rfl) ?_
    refine lv_iload hx hb dL_law_631 (lv_at hl 1 rfl) ?_
    refine lv_iconst (v := 1) hx hb dL_law_633 (by decide) ?_
    refine lv_iadd hx hb dL_law_634 ?_
    refine lsd (k := 1) hx hb hXs hbl hbA hS1 hnL hL hA (by decide) (nI_add (8 * n) 1) dL_law_635 ?_
    refine lv_aload_n hx hb dL_law_636 rfl (lv_at hl 2 rfl) ?_
    refine lv_iload hx hb dL_law_637 (lv_at hl 1 rfl) ?_
    refine lv_iconst (v := 2) hx hb dL_law_639 (by decide) ?_
    refine lv_iadd hx hb dL_law_640 ?_
    refine lsd (k := 2) hx hb hXs hbl hbA hS1 hnL hL hA (by decide) (nI_add (8 * n) 2) dL_law_641 ?_
    refine lv_aload_n hx hb dL_law_642 rfl (lv_at hl 2 rfl) ?_
    refine lv_iload hx hb dL_law_643 (lv_at hl 1 rfl) ?_
    refine lv_iconst (v := 3) hx hb dL_law_645 (by decide) ?_
    refine lv_iadd hx hb dL_law_646 ?_
    refine lsd (k := 3) hx hb hXs hbl hbA hS1 hnL hL hA (by decide) (nI_add (8 * n) 3) dL_law_647 ?_
    refine lv_aload_n hx hb dL_law_648 rfl (lv_at hl 2 rfl) ?_
    refine lv_iload hx hb dL_law_649 (lv_at hl 1 rfl) ?_
    refine lv_iconst (v := 4) hx hb dL_law_651 (by decide) ?_
    refine lv_iadd hx hb dL_law_652 ?_
    refine lsd (k := 4) hx hb hXs hbl hbA hS1 hnL hL hA (by decide) (nI_add (8 * n) 4) dL_law_653 ?_
    obtain ⟨sc, ad, ar, hMR, hMI, hsc⟩ := hM1
    refine lgVU hx hb hml hts hown hB hE hS1 kwL_117 (c_mset E ow1 mo sc ad ar h0 h1 fx ts B (A 1) (A 2) (A 3) (A 4) H1 hMR hMI hV) hMR.1.1 rfl (by decide) rfl hl.1 rfl (Nat.le_of_ble_eq_true rfl) (by omega) (by omega) dL_law_654 (fun H2 L2 hG2 hz2 hE hS2 => ?_)
    obtain ⟨tr9, j9, et9, ht9, hG2⟩ := (hG2.resolve_left (fun q => q.1 hcd)).2
    obtain ⟨ej9, etr9⟩ := same_tr hV et ht et9 ht9
    subst ej9 etr9
    obtain ⟨hX2, hM2, hJ2⟩ := hG2.go hX1 hJ1 ho9 (old9 hB hS1 hS2) hBF
    have hVn := sv_set hV et ht hcd
    have hzn := zc_sets (sp := A 2) (dc := A 3) (co := A 4) ht
    refine lv_aload_n hx hb dL_law_657 rfl (lv_at hl 4 rfl) ?_
    obtain ⟨sc2, ad2, ar2, hMR2, hMI2, hsc2⟩ := id hM2
    refine lpV hx hb hml hts hown hE kwL_93 (c_mthrown E mo sc2 ad2 ar2 H2 hMR2.1) hMR2.1.1 rfl (by decide) rfl hl.1 rfl (Nat.le_of_ble_eq_true rfl) (by omega) (by omega) dL_law_658 ?_
    rw [hsc2]
    refine lv_iload hx hb dL_law_661 (lv_at hl 0 rfl) ?_
    refine lv_icmp_eq (tgt := 668) hx hb dL_law_663 (by decide) (fun c5 => ?_) (fun c5 => ?_)
    rotate_left
    · exact absurd (by rw [hcd]) c5
    refine lv_goto (tgt := 1599) hx hb dL_law_668 (by decide) ?_
    exact kk H2 L2 _ _ ls hE hS2 ⟨ow1, h0, h1, fx, (ts.set j9 (setT tr9.1 (A 2) (A 3) (A 4), tr9.2.1, tr9.2.2)), B, 0, f1, hX2, hM2, hJ2, ho9, hVn, by omega, by omega, by omega⟩ (lv_sub hl [1, 2, 3, 4, 5] rfl)
