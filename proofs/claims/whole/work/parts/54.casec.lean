set_option maxRecDepth 100000 in
set_option maxHeartbeats 4000000 in
/-- partyOn -/
theorem lc_16 {p : Program} {e : Env} {s : State} {m : MethodId} {below : List Frame} {meth : Method} {c : Code} {Q : State → Prop} {b L n : Nat} {xs A : Nat → Int32} {E : ET} {x mo o cells slots : Nat} {H : Heap} {locs : List Loc} {ls : Array Slot} (hC : LX p s m c b L n xs A E o) (hE : EV E s H) (hS : va_S (fr E) s.heap H locs) (hI : LI E x mo o n cells slots H) (hl : lv_has ls 8 [(4, .int (nI (8 * n))), (0, .ref b), (1, .ref x), (2, .ref mo), (3, .ref o)])
    (kk : ∀ (H1 : Heap) (locs1 : List Loc) (cells1 slots1 : Nat) (ls1 : Array Slot), EV E s H1 → va_S (fr E) s.heap H1 locs1 → LI E x mo o (n + 1) cells1 slots1 H1 → lv_has ls1 8 [(4, .int (nI (8 * n))), (0, .ref b), (1, .ref x), (2, .ref mo), (3, .ref o)] → W p (eL E) e room_1 s m #[Value.ref b] below meth c H1 locs1 cells1 slots1 Q (F0 m 1599 ls1 [])) : W p (eL E) e room_1 s m #[Value.ref b] below meth c H locs cells slots Q (F0 m 1238 ls []) := by
  obtain ⟨hx, hb, hml, hown, hts, hBE, hXs, hbl, hgo, hnL, hL, hA⟩ := hC
  obtain ⟨ow, h0, h1, fx, ts, B, c9, f, hX, hMW, hJ, ho, hV, hBl, hcl, hsl⟩ := hI
  have hB : eB E ≤ s.heap.size := Nat.le_of_eq hBE
  have hbA : ¬ fr E b := by show ¬ eB E ≤ b; omega
  have hBF := hE.2.2.1
  have htn := hV.tn
  have hzl := zc_le ts
  have hbl9 := hMW.bl
  have hK : BL ts := fun tr ht => by have := hbl9 tr ht; omega
  refine lv_aload_n hx hb dL_law_1238 rfl (lv_at hl 2 rfl) ?_
  refine lv_aload_n hx hb dL_law_1239 rfl (lv_at hl 1 rfl) ?_
  refine lv_iload hx hb dL_law_1240 (lv_at hl 0 rfl) ?_
  refine lv_iconst (v := 1) hx hb dL_law_1242 (by decide) ?_
  refine lv_iadd hx hb dL_law_1243 ?_
  refine lsd (k := 1) hx hb hXs hbl hbA hS hnL hL hA (by decide) (nI_add (8 * n) 1) dL_law_1244 ?_
  refine lv_aload_n hx hb dL_law_1245 rfl (lv_at hl 1 rfl) ?_
  refine lv_iload hx hb dL_law_1246 (lv_at hl 0 rfl) ?_
  refine lv_iconst (v := 2) hx hb dL_law_1248 (by decide) ?_
  refine lv_iadd hx hb dL_law_1249 ?_
  refine lsd (k := 2) hx hb hXs hbl hbA hS hnL hL hA (by decide) (nI_add (8 * n) 2) dL_law_1250 ?_
  refine lv_aload_n hx hb dL_law_1251 rfl (lv_at hl 4 rfl) ?_
  refine lgW hx hb hml hts hown hB hE hS kwX_147 (w_partyOn E ow x o h0 h1 fx ts f (A 1) (A 2) H hX hV hK hJ ho hgo) (by decide) rfl hl.1 rfl (Nat.le_of_ble_eq_true rfl) (by omega) (by omega) dL_law_1252 (fun v1 H1 L1 ho1 hz1 hE hS1 => ?_)
  obtain ⟨hv1, hw1⟩ := ho1
  subst hv1
  dsimp only [Option.toList, List.nil_append, List.cons_append]
  obtain ⟨ow1, f1, hX1, hM1, hJ1, ho9, hP1⟩ := rd_go hw1 hMW hJ ho
  refine lv_istore (lv' := [(5, .int (nI (cdPO ts (A 1) (A 2)))), (4, .int (nI (8 * n))), (0, .ref b), (1, .ref x), (2, .ref mo), (3, .ref o)]) hx hb dL_law_1255 hl (by decide) rfl (fun ls hl => ?_)
  refine lv_aload_n hx hb dL_law_1257 rfl (lv_at hl 4 rfl) ?_
  refine lv_aload_n hx hb dL_law_1258 rfl (lv_at hl 2 rfl) ?_
  refine lv_iload hx hb dL_law_1259 (lv_at hl 1 rfl) ?_
  refine lv_iconst (v := 1) hx hb dL_law_1261 (by decide) ?_
  refine lv_iadd hx hb dL_law_1262 ?_
  refine lsd (k := 1) hx hb hXs hbl hbA hS1 hnL hL hA (by decide) (nI_add (8 * n) 1) dL_law_1263 ?_
  refine lv_aload_n hx hb dL_law_1264 rfl (lv_at hl 2 rfl) ?_
  refine lv_iload hx hb dL_law_1265 (lv_at hl 1 rfl) ?_
  refine lv_iconst (v := 2) hx hb dL_law_1267 (by decide) ?_
  refine lv_iadd hx hb dL_law_1268 ?_
  refine lsd (k := 2) hx hb hXs hbl hbA hS1 hnL hL hA (by decide) (nI_add (8 * n) 2) dL_law_1269 ?_
  obtain ⟨sc, ad, ar, hMR, hMI, hsc⟩ := hM1
  refine lgV hx hb hml hts hown hB hE hS1 kwL_149 (c_mpartyon E ow1 mo sc ad ar h0 h1 fx ts B (A 1) (A 2) H1 hMR hMI hV) hMR.1.1 rfl (by decide) rfl hl.1 rfl (Nat.le_of_ble_eq_true rfl) (by omega) (by omega) dL_law_1270 (fun H2 L2 hG2 hz2 hE hS2 => ?_)
  obtain ⟨hX2, hM2, hJ2⟩ := hG2.go hX1 hJ1 ho9 (old9 hB hS1 hS2) hBF
  refine lv_istore (lv' := [(6, .int (if cdPO ts (A 1) (A 2) = 0 then ((trd ts (A 1)).elim 0 (fun tr => hldS tr.1 tr.2.2 (A 2))) else 0)), (5, .int (nI (cdPO ts (A 1) (A 2)))), (4, .int (nI (8 * n))), (0, .ref b), (1, .ref x), (2, .ref mo), (3, .ref o)]) hx hb dL_law_1273 hl (by decide) rfl (fun ls hl => ?_)
  refine lv_aload_n hx hb dL_law_1275 rfl (lv_at hl 5 rfl) ?_
  obtain ⟨sc2, ad2, ar2, hMR2, hMI2, hsc2⟩ := id hM2
  refine lpV hx hb hml hts hown hE kwL_93 (c_mthrown E mo sc2 ad2 ar2 H2 hMR2.1) hMR2.1.1 rfl (by decide) rfl hl.1 rfl (Nat.le_of_ble_eq_true rfl) (by omega) (by omega) dL_law_1276 ?_
  rw [hsc2]
  refine lv_iload hx hb dL_law_1279 (lv_at hl 1 rfl) ?_
  refine lv_icmp_eq (tgt := 1286) hx hb dL_law_1281 (by decide) (fun c5 => ?_) (fun c5 => ?_)
  rotate_left
  · exact absurd rfl c5
  refine lv_iload hx hb dL_law_1286 (lv_at hl 1 rfl) ?_
  refine lv_if_ne (tgt := 1303) hx hb dL_law_1288 (by decide) (fun c6 => ?_) (fun c6 => ?_)
  · refine lv_goto (tgt := 1599) hx hb dL_law_1303 (by decide) ?_
    exact kk H2 L2 _ _ ls hE hS2 ⟨ow1, h0, h1, fx, ts, B, cdPO ts (A 1) (A 2), f1, hX2, hM2, hJ2, ho9, hV, by omega, by omega, by omega⟩ (lv_sub hl [2, 3, 4, 5, 6] rfl)
  · have hcd := cd0 (Nat.le_trans (cdPO_le _ _ _) (by decide)) c6
    refine lv_aload_n hx hb dL_law_1291 rfl (lv_at hl 6 rfl) ?_
    refine lv_iconst (v := 0) hx hb dL_law_1292 (by decide) ?_
    refine aJ0 hx hb hE hJ2 dL_law_1293 ?_
    refine lv_iload hx hb dL_law_1294 (lv_at hl 0 rfl) ?_
    refine lv_i2l hx hb dL_law_1296 rfl ?_
    refine W.lcmp hx hb dL_law_1297 ?_
    refine lv_if_eq (tgt := 1303) hx hb dL_law_1298 (by decide) (fun c7 => ?_) (fun c7 => ?_)
    rotate_left
    · exact absurd (lcmp_eq0.mpr (by rw [if_pos hcd]; exact hP1 hcd)) c7
    refine lv_goto (tgt := 1599) hx hb dL_law_1303 (by decide) ?_
    exact kk H2 L2 _ _ ls hE hS2 ⟨ow1, h0, h1, fx, ts, B, cdPO ts (A 1) (A 2), f1, hX2, hM2, hJ2, ho9, hV, by omega, by omega, by omega⟩ (lv_sub hl [2, 3, 4, 5, 6] rfl)

set_option maxRecDepth 100000 in
set_option maxHeartbeats 4000000 in
/-- cash -/
theorem lc_17 {p : Program} {e : Env} {s : State} {m : MethodId} {below : List Frame} {meth : Method} {c : Code} {Q : State → Prop} {b L n : Nat} {xs A : Nat → Int32} {E : ET} {x mo o cells slots : Nat} {H : Heap} {locs : List Loc} {ls : Array Slot} (hC : LX p s m c b L n xs A E o) (hE : EV E s H) (hS : va_S (fr E) s.heap H locs) (hI : LI E x mo o n cells slots H) (hl : lv_has ls 8 [(4, .int (nI (8 * n))), (0, .ref b), (1, .ref x), (2, .ref mo), (3, .ref o)])
    (kk : ∀ (H1 : Heap) (locs1 : List Loc) (cells1 slots1 : Nat) (ls1 : Array Slot), EV E s H1 → va_S (fr E) s.heap H1 locs1 → LI E x mo o (n + 1) cells1 slots1 H1 → lv_has ls1 8 [(4, .int (nI (8 * n))), (0, .ref b), (1, .ref x), (2, .ref mo), (3, .ref o)] → W p (eL E) e room_1 s m #[Value.ref b] below meth c H1 locs1 cells1 slots1 Q (F0 m 1599 ls1 [])) : W p (eL E) e room_1 s m #[Value.ref b] below meth c H locs cells slots Q (F0 m 1306 ls []) := by
  obtain ⟨hx, hb, hml, hown, hts, hBE, hXs, hbl, hgo, hnL, hL, hA⟩ := hC
  obtain ⟨ow, h0, h1, fx, ts, B, c9, f, hX, hMW, hJ, ho, hV, hBl, hcl, hsl⟩ := hI
  have hB : eB E ≤ s.heap.size := Nat.le_of_eq hBE
  have hbA : ¬ fr E b := by show ¬ eB E ≤ b; omega
  have hBF := hE.2.2.1
  have htn := hV.tn
  have hzl := zc_le ts
  have hbl9 := hMW.bl
  have hK : BL ts := fun tr ht => by have := hbl9 tr ht; omega
  refine lv_aload_n hx hb dL_law_1306 rfl (lv_at hl 2 rfl) ?_
  refine lv_aload_n hx hb dL_law_1307 rfl (lv_at hl 1 rfl) ?_
  refine lv_iload hx hb dL_law_1308 (lv_at hl 0 rfl) ?_
  refine lv_iconst (v := 1) hx hb dL_law_1310 (by decide) ?_
  refine lv_iadd hx hb dL_law_1311 ?_
  refine lsd (k := 1) hx hb hXs hbl hbA hS hnL hL hA (by decide) (nI_add (8 * n) 1) dL_law_1312 ?_
  refine lv_aload_n hx hb dL_law_1313 rfl (lv_at hl 1 rfl) ?_
  refine lv_iload hx hb dL_law_1314 (lv_at hl 0 rfl) ?_
  refine lv_iconst (v := 2) hx hb dL_law_1316 (by decide) ?_
  refine lv_iadd hx hb dL_law_1317 ?_
  refine lsd (k := 2) hx hb hXs hbl hbA hS hnL hL hA (by decide) (nI_add (8 * n) 2) dL_law_1318 ?_
  refine lv_aload_n hx hb dL_law_1319 rfl (lv_at hl 4 rfl) ?_
  refine lgW hx hb hml hts hown hB hE hS kwX_150 (w_cash E ow x o h0 h1 fx ts f (A 1) (A 2) H hX hV hK hJ ho hgo) (by decide) rfl hl.1 rfl (Nat.le_of_ble_eq_true rfl) (by omega) (by omega) dL_law_1320 (fun v1 H1 L1 ho1 hz1 hE hS1 => ?_)
  obtain ⟨hv1, hw1⟩ := ho1
  subst hv1
  dsimp only [Option.toList, List.nil_append, List.cons_append]
  obtain ⟨ow1, f1, hX1, hM1, hJ1, ho9, hP1⟩ := rd_go hw1 hMW hJ ho
  refine lv_istore (lv' := [(5, .int (nI (cdCash (A 1) (A 2)))), (4, .int (nI (8 * n))), (0, .ref b), (1, .ref x), (2, .ref mo), (3, .ref o)]) hx hb dL_law_1323 hl (by decide) rfl (fun ls hl => ?_)
  refine lv_aload_n hx hb dL_law_1325 rfl (lv_at hl 4 rfl) ?_
  refine lv_aload_n hx hb dL_law_1326 rfl (lv_at hl 2 rfl) ?_
  refine lv_iload hx hb dL_law_1327 (lv_at hl 1 rfl) ?_
  refine lv_iconst (v := 1) hx hb dL_law_1329 (by decide) ?_
  refine lv_iadd hx hb dL_law_1330 ?_
  refine lsd (k := 1) hx hb hXs hbl hbA hS1 hnL hL hA (by decide) (nI_add (8 * n) 1) dL_law_1331 ?_
  refine lv_aload_n hx hb dL_law_1332 rfl (lv_at hl 2 rfl) ?_
  refine lv_iload hx hb dL_law_1333 (lv_at hl 1 rfl) ?_
  refine lv_iconst (v := 2) hx hb dL_law_1335 (by decide) ?_
  refine lv_iadd hx hb dL_law_1336 ?_
  refine lsd (k := 2) hx hb hXs hbl hbA hS1 hnL hL hA (by decide) (nI_add (8 * n) 2) dL_law_1337 ?_
  obtain ⟨sc, ad, ar, hMR, hMI, hsc⟩ := hM1
  refine lgV hx hb hml hts hown hB hE hS1 kwL_152 (c_mcash E ow1 mo sc ad ar h0 h1 fx ts B (A 1) (A 2) H1 hMR hMI hV) hMR.1.1 rfl (by decide) rfl hl.1 rfl (Nat.le_of_ble_eq_true rfl) (by omega) (by omega) dL_law_1338 (fun H2 L2 hG2 hz2 hE hS2 => ?_)
  obtain ⟨hX2, hM2, hJ2⟩ := hG2.go hX1 hJ1 ho9 (old9 hB hS1 hS2) hBF
  refine lv_lstore (lv' := [(6, .long (if cdCash (A 1) (A 2) = 0 then sumS h0 h1 fx (A 1) (A 2) (A 2) 0 ts else 0)), (5, .int (nI (cdCash (A 1) (A 2)))), (4, .int (nI (8 * n))), (0, .ref b), (1, .ref x), (2, .ref mo), (3, .ref o)]) hx hb dL_law_1341 hl (by decide) rfl (fun ls hl => ?_)
  refine lv_aload_n hx hb dL_law_1343 rfl (lv_at hl 5 rfl) ?_
  obtain ⟨sc2, ad2, ar2, hMR2, hMI2, hsc2⟩ := id hM2
  refine lpV hx hb hml hts hown hE kwL_93 (c_mthrown E mo sc2 ad2 ar2 H2 hMR2.1) hMR2.1.1 rfl (by decide) rfl hl.1 rfl (Nat.le_of_ble_eq_true rfl) (by omega) (by omega) dL_law_1344 ?_
  rw [hsc2]
  refine lv_iload hx hb dL_law_1347 (lv_at hl 1 rfl) ?_
  refine lv_icmp_eq (tgt := 1354) hx hb dL_law_1349 (by decide) (fun c5 => ?_) (fun c5 => ?_)
  rotate_left
  · exact absurd rfl c5
  refine lv_iload hx hb dL_law_1354 (lv_at hl 1 rfl) ?_
  refine lv_if_ne (tgt := 1370) hx hb dL_law_1356 (by decide) (fun c6 => ?_) (fun c6 => ?_)
  · refine lv_goto (tgt := 1599) hx hb dL_law_1370 (by decide) ?_
    exact kk H2 L2 _ _ ls hE hS2 ⟨ow1, h0, h1, fx, ts, B, cdCash (A 1) (A 2), f1, hX2, hM2, hJ2, ho9, hV, by omega, by omega, by omega⟩ (lv_sub hl [2, 3, 4, 5, 6] rfl)
  · have hcd := cd0 (Nat.le_trans (cdCash_le _ _) (by decide)) c6
    refine lv_aload_n hx hb dL_law_1359 rfl (lv_at hl 6 rfl) ?_
    refine lv_iconst (v := 0) hx hb dL_law_1360 (by decide) ?_
    refine aJ0 hx hb hE hJ2 dL_law_1361 ?_
    refine lv_lload hx hb dL_law_1362 (lv_at hl 0 rfl) ?_
    refine W.lcmp hx hb dL_law_1364 ?_
    refine lv_if_eq (tgt := 1370) hx hb dL_law_1365 (by decide) (fun c7 => ?_) (fun c7 => ?_)
    rotate_left
    · exact absurd (lcmp_eq0.mpr (by rw [if_pos hcd]; exact hP1 hcd)) c7
    refine lv_goto (tgt := 1599) hx hb dL_law_1370 (by decide) ?_
    exact kk H2 L2 _ _ ls hE hS2 ⟨ow1, h0, h1, fx, ts, B, cdCash (A 1) (A 2), f1, hX2, hM2, hJ2, ho9, hV, by omega, by omega, by omega⟩ (lv_sub hl [2, 3, 4, 5, 6] rfl)

set_option maxRecDepth 100000 in
set_option maxHeartbeats 4000000 in
/-- cashOfDays -/
theorem lc_18 {p : Program} {e : Env} {s : State} {m : MethodId} {below : List Frame} {meth : Method} {c : Code} {Q : State → Prop} {b L n : Nat} {xs A : Nat → Int32} {E : ET} {x mo o cells slots : Nat} {H : Heap} {locs : List Loc} {ls : Array Slot} (hC : LX p s m c b L n xs A E o) (hE : EV E s H) (hS : va_S (fr E) s.heap H locs) (hI : LI E x mo o n cells slots H) (hl : lv_has ls 8 [(4, .int (nI (8 * n))), (0, .ref b), (1, .ref x), (2, .ref mo), (3, .ref o)])
    (kk : ∀ (H1 : Heap) (locs1 : List Loc) (cells1 slots1 : Nat) (ls1 : Array Slot), EV E s H1 → va_S (fr E) s.heap H1 locs1 → LI E x mo o (n + 1) cells1 slots1 H1 → lv_has ls1 8 [(4, .int (nI (8 * n))), (0, .ref b), (1, .ref x), (2, .ref mo), (3, .ref o)] → W p (eL E) e room_1 s m #[Value.ref b] below meth c H1 locs1 cells1 slots1 Q (F0 m 1599 ls1 [])) : W p (eL E) e room_1 s m #[Value.ref b] below meth c H locs cells slots Q (F0 m 1373 ls []) := by
  obtain ⟨hx, hb, hml, hown, hts, hBE, hXs, hbl, hgo, hnL, hL, hA⟩ := hC
  obtain ⟨ow, h0, h1, fx, ts, B, c9, f, hX, hMW, hJ, ho, hV, hBl, hcl, hsl⟩ := hI
  have hB : eB E ≤ s.heap.size := Nat.le_of_eq hBE
  have hbA : ¬ fr E b := by show ¬ eB E ≤ b; omega
  have hBF := hE.2.2.1
  have htn := hV.tn
  have hzl := zc_le ts
  have hbl9 := hMW.bl
  have hK : BL ts := fun tr ht => by have := hbl9 tr ht; omega
  refine lv_aload_n hx hb dL_law_1373 rfl (lv_at hl 2 rfl) ?_
  refine lv_aload_n hx hb dL_law_1374 rfl (lv_at hl 1 rfl) ?_
  refine lv_iload hx hb dL_law_1375 (lv_at hl 0 rfl) ?_
  refine lv_iconst (v := 1) hx hb dL_law_1377 (by decide) ?_
  refine lv_iadd hx hb dL_law_1378 ?_
  refine lsd (k := 1) hx hb hXs hbl hbA hS hnL hL hA (by decide) (nI_add (8 * n) 1) dL_law_1379 ?_
  refine lv_aload_n hx hb dL_law_1380 rfl (lv_at hl 1 rfl) ?_
  refine lv_iload hx hb dL_law_1381 (lv_at hl 0 rfl) ?_
  refine lv_iconst (v := 2) hx hb dL_law_1383 (by decide) ?_
  refine lv_iadd hx hb dL_law_1384 ?_
  refine lsd (k := 2) hx hb hXs hbl hbA hS hnL hL hA (by decide) (nI_add (8 * n) 2) dL_law_1385 ?_
  refine lv_aload_n hx hb dL_law_1386 rfl (lv_at hl 1 rfl) ?_
  refine lv_iload hx hb dL_law_1387 (lv_at hl 0 rfl) ?_
  refine lv_iconst (v := 3) hx hb dL_law_1389 (by decide) ?_
  refine lv_iadd hx hb dL_law_1390 ?_
  refine lsd (k := 3) hx hb hXs hbl hbA hS hnL hL hA (by decide) (nI_add (8 * n) 3) dL_law_1391 ?_
  refine lv_aload_n hx hb dL_law_1392 rfl (lv_at hl 4 rfl) ?_
  refine lgW hx hb hml hts hown hB hE hS kwX_153 (w_cashOfDays E ow x o h0 h1 fx ts f (A 1) (A 2) (A 3) H hX hV hK hJ ho hgo) (by decide) rfl hl.1 rfl (Nat.le_of_ble_eq_true rfl) (by omega) (by omega) dL_law_1393 (fun v1 H1 L1 ho1 hz1 hE hS1 => ?_)
  obtain ⟨hv1, hw1⟩ := ho1
  subst hv1
  dsimp only [Option.toList, List.nil_append, List.cons_append]
  obtain ⟨ow1, f1, hX1, hM1, hJ1, ho9, hP1⟩ := rd_go hw1 hMW hJ ho
  refine lv_istore (lv' := [(5, .int (nI (cdSpan (A 1) (A 2) (A 3)))), (4, .int (nI (8 * n))), (0, .ref b), (1, .ref x), (2, .ref mo), (3, .ref o)]) hx hb dL_law_1396 hl (by decide) rfl (fun ls hl => ?_)
  refine lv_aload_n hx hb dL_law_1398 rfl (lv_at hl 4 rfl) ?_
  refine lv_aload_n hx hb dL_law_1399 rfl (lv_at hl 2 rfl) ?_
  refine lv_iload hx hb dL_law_1400 (lv_at hl 1 rfl) ?_
  refine lv_iconst (v := 1) hx hb dL_law_1402 (by decide) ?_
  refine lv_iadd hx hb dL_law_1403 ?_
  refine lsd (k := 1) hx hb hXs hbl hbA hS1 hnL hL hA (by decide) (nI_add (8 * n) 1) dL_law_1404 ?_
  refine lv_aload_n hx hb dL_law_1405 rfl (lv_at hl 2 rfl) ?_
  refine lv_iload hx hb dL_law_1406 (lv_at hl 1 rfl) ?_
  refine lv_iconst (v := 2) hx hb dL_law_1408 (by decide) ?_
  refine lv_iadd hx hb dL_law_1409 ?_
  refine lsd (k := 2) hx hb hXs hbl hbA hS1 hnL hL hA (by decide) (nI_add (8 * n) 2) dL_law_1410 ?_
  refine lv_aload_n hx hb dL_law_1411 rfl (lv_at hl 2 rfl) ?_
  refine lv_iload hx hb dL_law_1412 (lv_at hl 1 rfl) ?_
  refine lv_iconst (v := 3) hx hb dL_law_1414 (by decide) ?_
  refine lv_iadd hx hb dL_law_1415 ?_
  refine lsd (k := 3) hx hb hXs hbl hbA hS1 hnL hL hA (by decide) (nI_add (8 * n) 3) dL_law_1416 ?_
  obtain ⟨sc, ad, ar, hMR, hMI, hsc⟩ := hM1
  refine lgV hx hb hml hts hown hB hE hS1 kwL_155 (c_mdaysum E ow1 mo sc ad ar h0 h1 fx ts B (A 1) (A 2) (A 3) H1 hMR hMI hV) hMR.1.1 rfl (by decide) rfl hl.1 rfl (Nat.le_of_ble_eq_true rfl) (by omega) (by omega) dL_law_1417 (fun H2 L2 hG2 hz2 hE hS2 => ?_)
  obtain ⟨hX2, hM2, hJ2⟩ := hG2.go hX1 hJ1 ho9 (old9 hB hS1 hS2) hBF
  refine lv_lstore (lv' := [(6, .long (if cdSpan (A 1) (A 2) (A 3) = 0 then sumS h0 h1 fx (A 1) (A 2) (A 3) 0 ts else 0)), (5, .int (nI (cdSpan (A 1) (A 2) (A 3)))), (4, .int (nI (8 * n))), (0, .ref b), (1, .ref x), (2, .ref mo), (3, .ref o)]) hx hb dL_law_1420 hl (by decide) rfl (fun ls hl => ?_)
  refine lv_aload_n hx hb dL_law_1422 rfl (lv_at hl 5 rfl) ?_
  obtain ⟨sc2, ad2, ar2, hMR2, hMI2, hsc2⟩ := id hM2
  refine lpV hx hb hml hts hown hE kwL_93 (c_mthrown E mo sc2 ad2 ar2 H2 hMR2.1) hMR2.1.1 rfl (by decide) rfl hl.1 rfl (Nat.le_of_ble_eq_true rfl) (by omega) (by omega) dL_law_1423 ?_
  rw [hsc2]
  refine lv_iload hx hb dL_law_1426 (lv_at hl 1 rfl) ?_
  refine lv_icmp_eq (tgt := 1433) hx hb dL_law_1428 (by decide) (fun c5 => ?_) (fun c5 => ?_)
  rotate_left
  · exact absurd rfl c5
  refine lv_iload hx hb dL_law_1433 (lv_at hl 1 rfl) ?_
  refine lv_if_ne (tgt := 1449) hx hb dL_law_1435 (by decide) (fun c6 => ?_) (fun c6 => ?_)
  · refine lv_goto (tgt := 1599) hx hb dL_law_1449 (by decide) ?_
    exact kk H2 L2 _ _ ls hE hS2 ⟨ow1, h0, h1, fx, ts, B, cdSpan (A 1) (A 2) (A 3), f1, hX2, hM2, hJ2, ho9, hV, by omega, by omega, by omega⟩ (lv_sub hl [2, 3, 4, 5, 6] rfl)
  · have hcd := cd0 (Nat.le_trans (cdSpan_le _ _ _) (by decide)) c6
    refine lv_aload_n hx hb dL_law_1438 rfl (lv_at hl 6 rfl) ?_
    refine lv_iconst (v := 0) hx hb dL_law_1439 (by decide) ?_
    refine aJ0 hx hb hE hJ2 dL_law_1440 ?_
    refine lv_lload hx hb dL_law_1441 (lv_at hl 0 rfl) ?_
    refine W.lcmp hx hb dL_law_1443 ?_
    refine lv_if_eq (tgt := 1449) hx hb dL_law_1444 (by decide) (fun c7 => ?_) (fun c7 => ?_)
    rotate_left
    · exact absurd (lcmp_eq0.mpr (by rw [if_pos hcd]; exact hP1 hcd)) c7
    refine lv_goto (tgt := 1599) hx hb dL_law_1449 (by decide) ?_
    exact kk H2 L2 _ _ ls hE hS2 ⟨ow1, h0, h1, fx, ts, B, cdSpan (A 1) (A 2) (A 3), f1, hX2, hM2, hJ2, ho9, hV, by omega, by omega, by omega⟩ (lv_sub hl [2, 3, 4, 5, 6] rfl)

set_option maxRecDepth 100000 in
set_option maxHeartbeats 4000000 in
/-- cashByTrades -/
theorem lc_19 {p : Program} {e : Env} {s : State} {m : MethodId} {below : List Frame} {meth : Method} {c : Code} {Q : State → Prop} {b L n : Nat} {xs A : Nat → Int32} {E : ET} {x mo o cells slots : Nat} {H : Heap} {locs : List Loc} {ls : Array Slot} (hC : LX p s m c b L n xs A E o) (hE : EV E s H) (hS : va_S (fr E) s.heap H locs) (hI : LI E x mo o n cells slots H) (hl : lv_has ls 8 [(4, .int (nI (8 * n))), (0, .ref b), (1, .ref x), (2, .ref mo), (3, .ref o)])
    (kk : ∀ (H1 : Heap) (locs1 : List Loc) (cells1 slots1 : Nat) (ls1 : Array Slot), EV E s H1 → va_S (fr E) s.heap H1 locs1 → LI E x mo o (n + 1) cells1 slots1 H1 → lv_has ls1 8 [(4, .int (nI (8 * n))), (0, .ref b), (1, .ref x), (2, .ref mo), (3, .ref o)] → W p (eL E) e room_1 s m #[Value.ref b] below meth c H1 locs1 cells1 slots1 Q (F0 m 1599 ls1 [])) : W p (eL E) e room_1 s m #[Value.ref b] below meth c H locs cells slots Q (F0 m 1452 ls []) := by
  obtain ⟨hx, hb, hml, hown, hts, hBE, hXs, hbl, hgo, hnL, hL, hA⟩ := hC
  obtain ⟨ow, h0, h1, fx, ts, B, c9, f, hX, hMW, hJ, ho, hV, hBl, hcl, hsl⟩ := hI
  have hB : eB E ≤ s.heap.size := Nat.le_of_eq hBE
  have hbA : ¬ fr E b := by show ¬ eB E ≤ b; omega
  have hBF := hE.2.2.1
  have htn := hV.tn
  have hzl := zc_le ts
  have hbl9 := hMW.bl
  have hK : BL ts := fun tr ht => by have := hbl9 tr ht; omega
  refine lv_aload_n hx hb dL_law_1452 rfl (lv_at hl 2 rfl) ?_
  refine lv_aload_n hx hb dL_law_1453 rfl (lv_at hl 1 rfl) ?_
  refine lv_iload hx hb dL_law_1454 (lv_at hl 0 rfl) ?_
  refine lv_iconst (v := 1) hx hb dL_law_1456 (by decide) ?_
  refine lv_iadd hx hb dL_law_1457 ?_
  refine lsd (k := 1) hx hb hXs hbl hbA hS hnL hL hA (by decide) (nI_add (8 * n) 1) dL_law_1458 ?_
  refine lv_aload_n hx hb dL_law_1459 rfl (lv_at hl 1 rfl) ?_
  refine lv_iload hx hb dL_law_1460 (lv_at hl 0 rfl) ?_
  refine lv_iconst (v := 2) hx hb dL_law_1462 (by decide) ?_
  refine lv_iadd hx hb dL_law_1463 ?_
  refine lsd (k := 2) hx hb hXs hbl hbA hS hnL hL hA (by decide) (nI_add (8 * n) 2) dL_law_1464 ?_
  refine lv_aload_n hx hb dL_law_1465 rfl (lv_at hl 1 rfl) ?_
  refine lv_iload hx hb dL_law_1466 (lv_at hl 0 rfl) ?_
  refine lv_iconst (v := 3) hx hb dL_law_1468 (by decide) ?_
  refine lv_iadd hx hb dL_law_1469 ?_
  refine lsd (k := 3) hx hb hXs hbl hbA hS hnL hL hA (by decide) (nI_add (8 * n) 3) dL_law_1470 ?_
  refine lv_aload_n hx hb dL_law_1471 rfl (lv_at hl 4 rfl) ?_
  refine lgW hx hb hml hts hown hB hE hS kwX_156 (w_cashByTrades E ow x o h0 h1 fx ts f (A 1) (A 2) (A 3) H hX hV hK hJ ho hgo) (by decide) rfl hl.1 rfl (Nat.le_of_ble_eq_true rfl) (by omega) (by omega) dL_law_1472 (fun v1 H1 L1 ho1 hz1 hE hS1 => ?_)
  obtain ⟨hv1, hw1⟩ := ho1
  subst hv1
  dsimp only [Option.toList, List.nil_append, List.cons_append]
  obtain ⟨ow1, f1, hX1, hM1, hJ1, ho9, hP1⟩ := rd_go hw1 hMW hJ ho
  refine lv_istore (lv' := [(5, .int (nI (cdSpan (A 1) (A 2) (A 3)))), (4, .int (nI (8 * n))), (0, .ref b), (1, .ref x), (2, .ref mo), (3, .ref o)]) hx hb dL_law_1475 hl (by decide) rfl (fun ls hl => ?_)
  refine lv_aload_n hx hb dL_law_1477 rfl (lv_at hl 4 rfl) ?_
  refine lv_aload_n hx hb dL_law_1478 rfl (lv_at hl 2 rfl) ?_
  refine lv_iload hx hb dL_law_1479 (lv_at hl 1 rfl) ?_
  refine lv_iconst (v := 1) hx hb dL_law_1481 (by decide) ?_
  refine lv_iadd hx hb dL_law_1482 ?_
  refine lsd (k := 1) hx hb hXs hbl hbA hS1 hnL hL hA (by decide) (nI_add (8 * n) 1) dL_law_1483 ?_
  refine lv_aload_n hx hb dL_law_1484 rfl (lv_at hl 2 rfl) ?_
  refine lv_iload hx hb dL_law_1485 (lv_at hl 1 rfl) ?_
  refine lv_iconst (v := 2) hx hb dL_law_1487 (by decide) ?_
  refine lv_iadd hx hb dL_law_1488 ?_
  refine lsd (k := 2) hx hb hXs hbl hbA hS1 hnL hL hA (by decide) (nI_add (8 * n) 2) dL_law_1489 ?_
  refine lv_aload_n hx hb dL_law_1490 rfl (lv_at hl 2 rfl) ?_
  refine lv_iload hx hb dL_law_1491 (lv_at hl 1 rfl) ?_
  refine lv_iconst (v := 3) hx hb dL_law_1493 (by decide) ?_
  refine lv_iadd hx hb dL_law_1494 ?_
  refine lsd (k := 3) hx hb hXs hbl hbA hS1 hnL hL hA (by decide) (nI_add (8 * n) 3) dL_law_1495 ?_
  obtain ⟨sc, ad, ar, hMR, hMI, hsc⟩ := hM1
  refine lgV hx hb hml hts hown hB hE hS1 kwL_158 (c_mbytr E ow1 mo sc ad ar h0 h1 fx ts B (A 1) (A 2) (A 3) H1 hMR hMI hV) hMR.1.1 rfl (by decide) rfl hl.1 rfl (Nat.le_of_ble_eq_true rfl) (by omega) (by omega) dL_law_1496 (fun H2 L2 hG2 hz2 hE hS2 => ?_)
  obtain ⟨hX2, hM2, hJ2⟩ := hG2.go hX1 hJ1 ho9 (old9 hB hS1 hS2) hBF
  refine lv_lstore (lv' := [(6, .long (if cdSpan (A 1) (A 2) (A 3) = 0 then sumS h0 h1 fx (A 1) (A 2) (A 3) 0 ts else 0)), (5, .int (nI (cdSpan (A 1) (A 2) (A 3)))), (4, .int (nI (8 * n))), (0, .ref b), (1, .ref x), (2, .ref mo), (3, .ref o)]) hx hb dL_law_1499 hl (by decide) rfl (fun ls hl => ?_)
  refine lv_aload_n hx hb dL_law_1501 rfl (lv_at hl 5 rfl) ?_
  obtain ⟨sc2, ad2, ar2, hMR2, hMI2, hsc2⟩ := id hM2
  refine lpV hx hb hml hts hown hE kwL_93 (c_mthrown E mo sc2 ad2 ar2 H2 hMR2.1) hMR2.1.1 rfl (by decide) rfl hl.1 rfl (Nat.le_of_ble_eq_true rfl) (by omega) (by omega) dL_law_1502 ?_
  rw [hsc2]
  refine lv_iload hx hb dL_law_1505 (lv_at hl 1 rfl) ?_
  refine lv_icmp_eq (tgt := 1512) hx hb dL_law_1507 (by decide) (fun c5 => ?_) (fun c5 => ?_)
  rotate_left
  · exact absurd rfl c5
  refine lv_iload hx hb dL_law_1512 (lv_at hl 1 rfl) ?_
  refine lv_if_ne (tgt := 1528) hx hb dL_law_1514 (by decide) (fun c6 => ?_) (fun c6 => ?_)
  · refine lv_goto (tgt := 1599) hx hb dL_law_1528 (by decide) ?_
    exact kk H2 L2 _ _ ls hE hS2 ⟨ow1, h0, h1, fx, ts, B, cdSpan (A 1) (A 2) (A 3), f1, hX2, hM2, hJ2, ho9, hV, by omega, by omega, by omega⟩ (lv_sub hl [2, 3, 4, 5, 6] rfl)
  · have hcd := cd0 (Nat.le_trans (cdSpan_le _ _ _) (by decide)) c6
    refine lv_aload_n hx hb dL_law_1517 rfl (lv_at hl 6 rfl) ?_
    refine lv_iconst (v := 0) hx hb dL_law_1518 (by decide) ?_
    refine aJ0 hx hb hE hJ2 dL_law_1519 ?_
    refine lv_lload hx hb dL_law_1520 (lv_at hl 0 rfl) ?_
    refine W.lcmp hx hb dL_law_1522 ?_
    refine lv_if_eq (tgt := 1528) hx hb dL_law_1523 (by decide) (fun c7 => ?_) (fun c7 => ?_)
    rotate_left
    · exact absurd (lcmp_eq0.mpr (by rw [if_pos hcd]; exact hP1 hcd)) c7
    refine lv_goto (tgt := 1599) hx hb dL_law_1528 (by decide) ?_
    exact kk H2 L2 _ _ ls hE hS2 ⟨ow1, h0, h1, fx, ts, B, cdSpan (A 1) (A 2) (A 3), f1, hX2, hM2, hJ2, ho9, hV, by omega, by omega, by omega⟩ (lv_sub hl [2, 3, 4, 5, 6] rfl)

set_option maxRecDepth 100000 in
set_option maxHeartbeats 4000000 in
/-- nextFlow -/
theorem lc_20 {p : Program} {e : Env} {s : State} {m : MethodId} {below : List Frame} {meth : Method} {c : Code} {Q : State → Prop} {b L n : Nat} {xs A : Nat → Int32} {E : ET} {x mo o cells slots : Nat} {H : Heap} {locs : List Loc} {ls : Array Slot} (hC : LX p s m c b L n xs A E o) (hE : EV E s H) (hS : va_S (fr E) s.heap H locs) (hI : LI E x mo o n cells slots H) (hl : lv_has ls 8 [(4, .int (nI (8 * n))), (0, .ref b), (1, .ref x), (2, .ref mo), (3, .ref o)])
    (kk : ∀ (H1 : Heap) (locs1 : List Loc) (cells1 slots1 : Nat) (ls1 : Array Slot), EV E s H1 → va_S (fr E) s.heap H1 locs1 → LI E x mo o (n + 1) cells1 slots1 H1 → lv_has ls1 8 [(4, .int (nI (8 * n))), (0, .ref b), (1, .ref x), (2, .ref mo), (3, .ref o)] → W p (eL E) e room_1 s m #[Value.ref b] below meth c H1 locs1 cells1 slots1 Q (F0 m 1599 ls1 [])) : W p (eL E) e room_1 s m #[Value.ref b] below meth c H locs cells slots Q (F0 m 1531 ls []) := by
  obtain ⟨hx, hb, hml, hown, hts, hBE, hXs, hbl, hgo, hnL, hL, hA⟩ := hC
  obtain ⟨ow, h0, h1, fx, ts, B, c9, f, hX, hMW, hJ, ho, hV, hBl, hcl, hsl⟩ := hI
  have hB : eB E ≤ s.heap.size := Nat.le_of_eq hBE
  have hbA : ¬ fr E b := by show ¬ eB E ≤ b; omega
  have hBF := hE.2.2.1
  have htn := hV.tn
  have hzl := zc_le ts
  have hbl9 := hMW.bl
  have hK : BL ts := fun tr ht => by have := hbl9 tr ht; omega
  refine lv_aload_n hx hb dL_law_1531 rfl (lv_at hl 2 rfl) ?_
  refine lv_aload_n hx hb dL_law_1532 rfl (lv_at hl 1 rfl) ?_
  refine lv_iload hx hb dL_law_1533 (lv_at hl 0 rfl) ?_
  refine lv_iconst (v := 1) hx hb dL_law_1535 (by decide) ?_
  refine lv_iadd hx hb dL_law_1536 ?_
  refine lsd (k := 1) hx hb hXs hbl hbA hS hnL hL hA (by decide) (nI_add (8 * n) 1) dL_law_1537 ?_
  refine lv_aload_n hx hb dL_law_1538 rfl (lv_at hl 1 rfl) ?_
  refine lv_iload hx hb dL_law_1539 (lv_at hl 0 rfl) ?_
  refine lv_iconst (v := 2) hx hb dL_law_1541 (by decide) ?_
  refine lv_iadd hx hb dL_law_1542 ?_
  refine lsd (k := 2) hx hb hXs hbl hbA hS hnL hL hA (by decide) (nI_add (8 * n) 2) dL_law_1543 ?_
  refine lv_aload_n hx hb dL_law_1544 rfl (lv_at hl 4 rfl) ?_
  refine lgW hx hb hml hts hown hB hE hS kwX_159 (w_nextFlow E ow x o h0 h1 fx ts f (A 1) (A 2) H hX hV hK hJ ho hgo) (by decide) rfl hl.1 rfl (Nat.le_of_ble_eq_true rfl) (by omega) (by omega) dL_law_1545 (fun v1 H1 L1 ho1 hz1 hE hS1 => ?_)
  obtain ⟨hv1, hw1⟩ := ho1
  subst hv1
  dsimp only [Option.toList, List.nil_append, List.cons_append]
  obtain ⟨ow1, f1, hX1, hM1, hJ1, ho9, hP1⟩ := rd_go hw1 hMW hJ ho
  refine lv_istore (lv' := [(5, .int (nI (cdCash (A 1) (A 2)))), (4, .int (nI (8 * n))), (0, .ref b), (1, .ref x), (2, .ref mo), (3, .ref o)]) hx hb dL_law_1548 hl (by decide) rfl (fun ls hl => ?_)
  refine lv_aload_n hx hb dL_law_1550 rfl (lv_at hl 4 rfl) ?_
  refine lv_aload_n hx hb dL_law_1551 rfl (lv_at hl 2 rfl) ?_
  refine lv_iload hx hb dL_law_1552 (lv_at hl 1 rfl) ?_
  refine lv_iconst (v := 1) hx hb dL_law_1554 (by decide) ?_
  refine lv_iadd hx hb dL_law_1555 ?_
  refine lsd (k := 1) hx hb hXs hbl hbA hS1 hnL hL hA (by decide) (nI_add (8 * n) 1) dL_law_1556 ?_
  refine lv_aload_n hx hb dL_law_1557 rfl (lv_at hl 2 rfl) ?_
  refine lv_iload hx hb dL_law_1558 (lv_at hl 1 rfl) ?_
  refine lv_iconst (v := 2) hx hb dL_law_1560 (by decide) ?_
  refine lv_iadd hx hb dL_law_1561 ?_
  refine lsd (k := 2) hx hb hXs hbl hbA hS1 hnL hL hA (by decide) (nI_add (8 * n) 2) dL_law_1562 ?_
  obtain ⟨sc, ad, ar, hMR, hMI, hsc⟩ := hM1
  refine lgV hx hb hml hts hown hB hE hS1 kwL_161 (c_mnext E ow1 mo sc ad ar h0 h1 fx ts B (A 1) (A 2) H1 hMR hMI hV) hMR.1.1 rfl (by decide) rfl hl.1 rfl (Nat.le_of_ble_eq_true rfl) (by omega) (by omega) dL_law_1563 (fun H2 L2 hG2 hz2 hE hS2 => ?_)
  obtain ⟨hX2, hM2, hJ2⟩ := hG2.go hX1 hJ1 ho9 (old9 hB hS1 hS2) hBF
  refine lv_istore (lv' := [(6, .int (if cdCash (A 1) (A 2) = 0 then nxT h0 h1 (A 1) (A 2) (-1) ts else 0)), (5, .int (nI (cdCash (A 1) (A 2)))), (4, .int (nI (8 * n))), (0, .ref b), (1, .ref x), (2, .ref mo), (3, .ref o)]) hx hb dL_law_1566 hl (by decide) rfl (fun ls hl => ?_)
  refine lv_aload_n hx hb dL_law_1568 rfl (lv_at hl 5 rfl) ?_
  obtain ⟨sc2, ad2, ar2, hMR2, hMI2, hsc2⟩ := id hM2
  refine lpV hx hb hml hts hown hE kwL_93 (c_mthrown E mo sc2 ad2 ar2 H2 hMR2.1) hMR2.1.1 rfl (by decide) rfl hl.1 rfl (Nat.le_of_ble_eq_true rfl) (by omega) (by omega) dL_law_1569 ?_
  rw [hsc2]
  refine lv_iload hx hb dL_law_1572 (lv_at hl 1 rfl) ?_
  refine lv_icmp_eq (tgt := 1579) hx hb dL_law_1574 (by decide) (fun c5 => ?_) (fun c5 => ?_)
  rotate_left
  · exact absurd rfl c5
  refine lv_iload hx hb dL_law_1579 (lv_at hl 1 rfl) ?_
  refine lv_if_ne (tgt := 1596) hx hb dL_law_1581 (by decide) (fun c6 => ?_) (fun c6 => ?_)
  · refine lv_goto (tgt := 1599) hx hb dL_law_1596 (by decide) ?_
    exact kk H2 L2 _ _ ls hE hS2 ⟨ow1, h0, h1, fx, ts, B, cdCash (A 1) (A 2), f1, hX2, hM2, hJ2, ho9, hV, by omega, by omega, by omega⟩ (lv_sub hl [2, 3, 4, 5, 6] rfl)
  · have hcd := cd0 (Nat.le_trans (cdCash_le _ _) (by decide)) c6
    refine lv_aload_n hx hb dL_law_1584 rfl (lv_at hl 6 rfl) ?_
    refine lv_iconst (v := 0) hx hb dL_law_1585 (by decide) ?_
    refine aJ0 hx hb hE hJ2 dL_law_1586 ?_
    refine lv_iload hx hb dL_law_1587 (lv_at hl 0 rfl) ?_
    refine lv_i2l hx hb dL_law_1589 rfl ?_
    refine W.lcmp hx hb dL_law_1590 ?_
    refine lv_if_eq (tgt := 1596) hx hb dL_law_1591 (by decide) (fun c7 => ?_) (fun c7 => ?_)
    rotate_left
    · exact absurd (lcmp_eq0.mpr (by rw [if_pos hcd]; exact hP1 hcd)) c7
    refine lv_goto (tgt := 1599) hx hb dL_law_1596 (by decide) ?_
    exact kk H2 L2 _ _ ls hE hS2 ⟨ow1, h0, h1, fx, ts, B, cdCash (A 1) (A 2), f1, hX2, hM2, hJ2, ho9, hV, by omega, by omega, by omega⟩ (lv_sub hl [2, 3, 4, 5, 6] rfl)
