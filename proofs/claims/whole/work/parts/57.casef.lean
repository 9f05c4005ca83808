set_option maxRecDepth 100000 in
set_option maxHeartbeats 4000000 in
/-- trade -/
theorem lc_5 {p : Program} {e : Env} {s : State} {m : MethodId} {below : List Frame} {meth : Method} {c : Code} {Q : State → Prop} {b L n : Nat} {xs A : Nat → Int32} {E : ET} {x mo o cells slots : Nat} {H : Heap} {locs : List Loc} {ls : Array Slot} (hC : LX p s m c b L n xs A E o) (hE : EV E s H) (hS : va_S (fr E) s.heap H locs) (hI : LI E x mo o n cells slots H) (hl : lv_has ls 8 [(4, .int (nI (8 * n))), (0, .ref b), (1, .ref x), (2, .ref mo), (3, .ref o)])
    (kk : ∀ (H1 : Heap) (locs1 : List Loc) (cells1 slots1 : Nat) (ls1 : Array Slot), EV E s H1 → va_S (fr E) s.heap H1 locs1 → LI E x mo o (n + 1) cells1 slots1 H1 → lv_has ls1 8 [(4, .int (nI (8 * n))), (0, .ref b), (1, .ref x), (2, .ref mo), (3, .ref o)] → W p (eL E) e room_1 s m #[Value.ref b] below meth c H1 locs1 cells1 slots1 Q (F0 m 1599 ls1 [])) : W p (eL E) e room_1 s m #[Value.ref b] below meth c H locs cells slots Q (F0 m 451 ls []) := by
  obtain ⟨hx, hb, hml, hown, hts, hBE, hXs, hbl, hgo, hnL, hL, hA⟩ := hC
  obtain ⟨ow, h0, h1, fx, ts, B, c9, f, hX, hMW, hJ, ho, hV, hBl, hcl, hsl⟩ := hI
  have hB : eB E ≤ s.heap.size := Nat.le_of_eq hBE
  have hbA : ¬ fr E b := by show ¬ eB E ≤ b; omega
  have hBF := hE.2.2.1
  have htn := hV.tn
  have hzl := zc_le ts
  have hbl9 := hMW.bl
  have hK : BL ts := fun tr ht => by have := hbl9 tr ht; omega
  refine lv_aload_n hx hb dL_law_451 rfl (lv_at hl 2 rfl) ?_
  refine lv_aload_n hx hb dL_law_452 rfl (lv_at hl 1 rfl) ?_
  refine lv_iload hx hb dL_law_453 (lv_at hl 0 rfl) ?_
  refine lv_iconst (v := 1) hx hb dL_law_455 (by decide) ?_
  refine lv_iadd hx hb dL_law_456 ?_
  refine lsd (k := 1) hx hb hXs hbl hbA hS hnL hL hA (by decide) (nI_add (8 * n) 1) dL_law_457 ?_
  refine lv_aload_n hx hb dL_law_458 rfl (lv_at hl 1 rfl) ?_
  refine lv_iload hx hb dL_law_459 (lv_at hl 0 rfl) ?_
  refine lv_iconst (v := 2) hx hb dL_law_461 (by decide) ?_
  refine lv_iadd hx hb dL_law_462 ?_
  refine lsd (k := 2) hx hb hXs hbl hbA hS hnL hL hA (by decide) (nI_add (8 * n) 2) dL_law_463 ?_
  refine lv_aload_n hx hb dL_law_464 rfl (lv_at hl 1 rfl) ?_
  refine lv_iload hx hb dL_law_465 (lv_at hl 0 rfl) ?_
  refine lv_iconst (v := 3) hx hb dL_law_467 (by decide) ?_
  refine lv_iadd hx hb dL_law_468 ?_
  refine lsd (k := 3) hx hb hXs hbl hbA hS hnL hL hA (by decide) (nI_add (8 * n) 3) dL_law_469 ?_
  refine lv_if_eq (tgt := 477) hx hb dL_law_470 (by decide) (fun cy => ?_) (fun cy => ?_)
  · refine lv_iconst (v := 0) hx hb dL_law_477 (by decide) ?_
    refine lv_aload_n hx hb dL_law_478 rfl (lv_at hl 1 rfl) ?_
    refine lv_iload hx hb dL_law_479 (lv_at hl 0 rfl) ?_
    refine lv_iconst (v := 4) hx hb dL_law_481 (by decide) ?_
    refine lv_iadd hx hb dL_law_482 ?_
    refine lsd (k := 4) hx hb hXs hbl hbA hS hnL hL hA (by decide) (nI_add (8 * n) 4) dL_law_483 ?_
    refine lv_aload_n hx hb dL_law_484 rfl (lv_at hl 1 rfl) ?_
    refine lv_iload hx hb dL_law_485 (lv_at hl 0 rfl) ?_
    refine lv_iconst (v := 5) hx hb dL_law_487 (by decide) ?_
    refine lv_iadd hx hb dL_law_488 ?_
    refine lsd (k := 5) hx hb hXs hbl hbA hS hnL hL hA (by decide) (nI_add (8 * n) 5) dL_law_489 ?_
    refine lv_aload_n hx hb dL_law_490 rfl (lv_at hl 1 rfl) ?_
    refine lv_iload hx hb dL_law_491 (lv_at hl 0 rfl) ?_
    refine lv_bipush (v := 6) hx hb dL_law_493 (by decide) ?_
    refine lv_iadd hx hb dL_law_495 ?_
    refine lsd (k := 6) hx hb hXs hbl hbA hS hnL hL hA (by decide) (nI_add (8 * n) 6) dL_law_496 ?_
    refine lv_aload_n hx hb dL_law_497 rfl (lv_at hl 1 rfl) ?_
    refine lv_iload hx hb dL_law_498 (lv_at hl 0 rfl) ?_
    refine lv_bipush (v := 7) hx hb dL_law_500 (by decide) ?_
    refine lv_iadd hx hb dL_law_502 ?_
    refine lsd (k := 7) hx hb hXs hbl hbA hS hnL hL hA (by decide) (nI_add (8 * n) 7) dL_law_503 ?_
    refine lv_aload_n hx hb dL_law_504 rfl (lv_at hl 4 rfl) ?_
    refine lgW hx hb hml hts hown hB hE hS kwX_110 (w_trade E ow x o h0 h1 fx ts f (A 1) (A 2) 0 (A 4) (A 5) (A 6) (A 7) H hX hV hK hJ ho hgo (by decide)) (by decide) rfl hl.1 rfl (Nat.le_of_ble_eq_true rfl) (by omega) (by omega) dL_law_505 (fun v1 H1 L1 ho1 hz1 hE hS1 => ?_)
    obtain ⟨hv1, hw1⟩ := ho1
    subst hv1
    dsimp only [Option.toList, List.nil_append, List.cons_append]
    rcases hw1 with ⟨hcd, hw⟩ | ⟨hcd, hw⟩
    · obtain ⟨ow1, f1, hX1, hM1, hJ1, ho9, -⟩ := hw.go hMW hJ ho
      refine lv_istore (lv' := [(5, .int (nI (cdTrd ts (A 1) (A 2) (A 4) (A 5) (A 6) (A 7)))), (4, .int (nI (8 * n))), (0, .ref b), (1, .ref x), (2, .ref mo), (3, .ref o)]) hx hb dL_law_508 hl (by decide) rfl (fun ls hl => ?_)
      refine lv_aload_n hx hb dL_law_510 rfl (lv_at hl 4 rfl) ?_
      refine lv_aload_n hx hb dL_law_511 rfl (lv_at hl 2 rfl) ?_
      refine lv_iload hx hb dL_law_512 (lv_at hl 1 rfl) ?_
      refine lv_iconst (v := 1) hx hb dL_law_514 (by decide) ?_
      refine lv_iadd hx hb dL_law_515 ?_
      refine lsd (k := 1) hx hb hXs hbl hbA hS1 hnL hL hA (by decide) (nI_add (8 * n) 1) dL_law_516 ?_
      refine lv_aload_n hx hb dL_law_517 rfl (lv_at hl 2 rfl) ?_
      refine lv_iload hx hb dL_law_518 (lv_at hl 1 rfl) ?_
      refine lv_iconst (v := 2) hx hb dL_law_520 (by decide) ?_
      refine lv_iadd hx hb dL_law_521 ?_
      refine lsd (k := 2) hx hb hXs hbl hbA hS1 hnL hL hA (by decide) (nI_add (8 * n) 2) dL_law_522 ?_
      refine lv_aload_n hx hb dL_law_523 rfl (lv_at hl 2 rfl) ?_
      refine lv_iload hx hb dL_law_524 (lv_at hl 1 rfl) ?_
      refine lv_iconst (v := 3) hx hb dL_law_526 (by decide) ?_
      refine lv_iadd hx hb dL_law_527 ?_
      refine lsd (k := 3) hx hb hXs hbl hbA hS1 hnL hL hA (by decide) (nI_add (8 * n) 3) dL_law_528 ?_
      refine lv_if_eq (tgt := 536) hx hb dL_law_529 (by decide) (fun cz => ?_) (fun cz => ?_)
      rotate_left
      · exact absurd cy cz
      refine lv_iconst (v := 0) hx hb dL_law_536 (by decide) ?_
      refine lv_aload_n hx hb dL_law_537 rfl (lv_at hl 2 rfl) ?_
      refine lv_iload hx hb dL_law_538 (lv_at hl 1 rfl) ?_
      refine lv_iconst (v := 4) hx hb dL_law_540 (by decide) ?_
      refine lv_iadd hx hb dL_law_541 ?_
      refine lsd (k := 4) hx hb hXs hbl hbA hS1 hnL hL hA (by decide) (nI_add (8 * n) 4) dL_law_542 ?_
      refine lv_aload_n hx hb dL_law_543 rfl (lv_at hl 2 rfl) ?_
      refine lv_iload hx hb dL_law_544 (lv_at hl 1 rfl) ?_
      refine lv_iconst (v := 5) hx hb dL_law_546 (by decide) ?_
      refine lv_iadd hx hb dL_law_547 ?_
      refine lsd (k := 5) hx hb hXs hbl hbA hS1 hnL hL hA (by decide) (nI_add (8 * n) 5) dL_law_548 ?_
      refine lv_aload_n hx hb dL_law_549 rfl (lv_at hl 2 rfl) ?_
      refine lv_iload hx hb dL_law_550 (lv_at hl 1 rfl) ?_
      refine lv_bipush (v := 6) hx hb dL_law_552 (by decide) ?_
      refine lv_iadd hx hb dL_law_554 ?_
      refine lsd (k := 6) hx hb hXs hbl hbA hS1 hnL hL hA (by decide) (nI_add (8 * n) 6) dL_law_555 ?_
      refine lv_aload_n hx hb dL_law_556 rfl (lv_at hl 2 rfl) ?_
      refine lv_iload hx hb dL_law_557 (lv_at hl 1 rfl) ?_
      refine lv_bipush (v := 7) hx hb dL_law_559 (by decide) ?_
      refine lv_iadd hx hb dL_law_561 ?_
      refine lsd (k := 7) hx hb hXs hbl hbA hS1 hnL hL hA (by decide) (nI_add (8 * n) 7) dL_law_562 ?_
      obtain ⟨sc, ad, ar, hMR, hMI, hsc⟩ := hM1
      refine lgV hx hb hml hts hown hB hE hS1 kwL_113 (c_mtrd E ow1 mo sc ad ar h0 h1 fx ts B (A 1) (A 2) 0 (A 4) (A 5) (A 6) (A 7) H1 hMR hMI hV (by decide)) hMR.1.1 rfl (by decide) rfl hl.1 rfl (Nat.le_of_ble_eq_true rfl) (by omega) (by omega) dL_law_563 (fun H2 L2 hG2 hz2 hE hS2 => ?_)
      have hG2 := (hG2.resolve_right (fun q => hcd q.1)).2
      obtain ⟨hX2, hM2, hJ2⟩ := hG2.go hX1 hJ1 ho9 (old9 hB hS1 hS2) hBF
      refine lv_istore (lv' := [(6, .int (if cdTrd ts (A 1) (A 2) (A 4) (A 5) (A 6) (A 7) = 0 then (nI ts.length) else 0)), (5, .int (nI (cdTrd ts (A 1) (A 2) (A 4) (A 5) (A 6) (A 7)))), (4, .int (nI (8 * n))), (0, .ref b), (1, .ref x), (2, .ref mo), (3, .ref o)]) hx hb dL_law_566 hl (by decide) rfl (fun ls hl => ?_)
      refine lv_aload_n hx hb dL_law_568 rfl (lv_at hl 5 rfl) ?_
      obtain ⟨sc2, ad2, ar2, hMR2, hMI2, hsc2⟩ := id hM2
      refine lpV hx hb hml hts hown hE kwL_93 (c_mthrown E mo sc2 ad2 ar2 H2 hMR2.1) hMR2.1.1 rfl (by decide) rfl hl.1 rfl (Nat.le_of_ble_eq_true rfl) (by omega) (by omega) dL_law_569 ?_
      rw [hsc2]
      refine lv_iload hx hb dL_law_572 (lv_at hl 1 rfl) ?_
      refine lv_icmp_eq (tgt := 579) hx hb dL_law_574 (by decide) (fun c5 => ?_) (fun c5 => ?_)
      rotate_left
      · exact absurd rfl c5
      refine lv_iload hx hb dL_law_579 (lv_at hl 1 rfl) ?_
      refine lv_if_ne (tgt := 596) hx hb dL_law_581 (by decide) (fun c6 => ?_) (fun c6 => ?_)
      rotate_left
      · exact absurd c6 (cd_ne (cdTrd_le _ _ _ _ _ _ _) hcd)
      refine lv_goto (tgt := 1599) hx hb dL_law_596 (by decide) ?_
      exact kk H2 L2 _ _ ls hE hS2 ⟨ow1, h0, h1, fx, ts, B, cdTrd ts (A 1) (A 2) (A 4) (A 5) (A 6) (A 7), f1, hX2, hM2, hJ2, ho9, hV, by omega, by omega, by omega⟩ (lv_sub hl [2, 3, 4, 5, 6] rfl)
    · obtain ⟨ow1, f1, hX1, hM1, hJ1, ho9, hP1⟩ := hw.go hMW hJ ho
      refine lv_istore (lv' := [(5, .int (nI (cdTrd ts (A 1) (A 2) (A 4) (A 5) (A 6) (A 7)))), (4, .int (nI (8 * n))), (0, .ref b), (1, .ref x), (2, .ref mo), (3, .ref o)]) hx hb dL_law_508 hl (by decide) rfl (fun ls hl => ?_)
      refine lv_aload_n hx hb dL_law_510 rfl (lv_at hl 4 rfl) ?_
      refine lv_aload_n hx hb dL_law_511 rfl (lv_at hl 2 rfl) ?_
      refine lv_iload hx hb dL_law_512 (lv_at hl 1 rfl) ?_
      refine lv_iconst (v := 1) hx hb dL_law_514 (by decide) ?_
      refine lv_iadd hx hb dL_law_515 ?_
      refine lsd (k := 1) hx hb hXs hbl hbA hS1 hnL hL hA (by decide) (nI_add (8 * n) 1) dL_law_516 ?_
      refine lv_aload_n hx hb dL_law_517 rfl (lv_at hl 2 rfl) ?_
      refine lv_iload hx hb dL_law_518 (lv_at hl 1 rfl) ?_
      refine lv_iconst (v := 2) hx hb dL_law_520 (by decide) ?_
      refine lv_iadd hx hb dL_law_521 ?_
      refine lsd (k := 2) hx hb hXs hbl hbA hS1 hnL hL hA (by decide) (nI_add (8 * n) 2) dL_law_522 ?_
      refine lv_aload_n hx hb dL_law_523 rfl (lv_at hl 2 rfl) ?_
      refine lv_iload hx hb dL_law_524 (lv_at hl 1 rfl) ?_
      refine lv_iconst (v := 3) hx hb dL_law_526 (by decide) ?_
      refine lv_iadd hx hb dL_law_527 ?_
      refine lsd (k := 3) hx hb hXs hbl hbA hS1 hnL hL hA (by decide) (nI_add (8 * n) 3) dL_law_528 ?_
      refine lv_if_eq (tgt := 536) hx hb dL_law_529 (by decide) (fun cz => ?_) (fun cz => ?_)
      rotate_left
      · exact absurd cy cz
      refine lv_iconst (v := 0) hx hb dL_law_536 (by decide) ?_
      refine lv_aload_n hx hb dL_law_537 rfl (lv_at hl 2 rfl) ?_
      refine lv_iload hx hb dL_law_538 (lv_at hl 1 rfl) ?_
      refine lv_iconst (v := 4) hx hb dL_law_540 (by decide) ?_
      refine lv_iadd hx hb dL_law_541 ?_
      refine lsd (k := 4) hx hb hXs hbl hbA hS1 hnL hL hA (by decide) (nI_add (8 * n) 4) dL_law_542 ?_
      refine lv_aload_n hx hb dL_law_543 rfl (lv_at hl 2 rfl) ?_
      refine lv_iload hx hb dL_law_544 (lv_at hl 1 rfl) ?_
      refine lv_iconst (v := 5) hx hb dL_law_546 (by decide) ?_
      refine lv_iadd hx hb dL_law_547 ?_
      refine lsd (k := 5) hx hb hXs hbl hbA hS1 hnL hL hA (by decide) (nI_add (8 * n) 5) dL_law_548 ?_
      refine lv_aload_n hx hb dL_law_549 rfl (lv_at hl 2 rfl) ?_
      refine lv_iload hx hb dL_law_550 (lv_at hl 1 rfl) ?_
      refine lv_bipush (v := 6) hx hb dL_law_552 (by decide) ?_
      refine lv_iadd hx hb dL_law_554 ?_
      refine lsd (k := 6) hx hb hXs hbl hbA hS1 hnL hL hA (by decide) (nI_add (8 * n) 6) dL_law_555 ?_
      refine lv_aload_n hx hb dL_law_556 rfl (lv_at hl 2 rfl) ?_
      refine lv_iload hx hb dL_law_557 (lv_at hl 1 rfl) ?_
      refine lv_bipush (v := 7) hx hb dL_law_559 (by decide) ?_
      refine lv_iadd hx hb dL_law_561 ?_
      refine lsd (k := 7) hx hb hXs hbl hbA hS1 hnL hL hA (by decide) (nI_add (8 * n) 7) dL_law_562 ?_
      obtain ⟨sc, ad, ar, hMR, hMI, hsc⟩ := hM1
      refine lgV hx hb hml hts hown hB hE hS1 kwL_113 (c_mtrd E ow1 mo sc ad ar h0 h1 fx ts B (A 1) (A 2) 0 (A 4) (A 5) (A 6) (A 7) H1 hMR hMI hV (by decide)) hMR.1.1 rfl (by decide) rfl hl.1 rfl (Nat.le_of_ble_eq_true rfl) (by omega) (by omega) dL_law_563 (fun H2 L2 hG2 hz2 hE hS2 => ?_)
      have hG2 := (hG2.resolve_left (fun q => q.1 hcd)).2
      obtain ⟨hX2, hM2, hJ2⟩ := hG2.go hX1 hJ1 ho9 (old9 hB hS1 hS2) hBF
      have hVn := sv_trd (py := 0) hV (by decide) hcd
      have hzn := zc_app ((mkT (A 1) (A 2) 0 (A 4) (A 5) (A 6) (A 7), [], []) : TR) ts
      refine lv_istore (lv' := [(6, .int (if cdTrd ts (A 1) (A 2) (A 4) (A 5) (A 6) (A 7) = 0 then (nI ts.length) else 0)), (5, .int (nI (cdTrd ts (A 1) (A 2) (A 4) (A 5) (A 6) (A 7)))), (4, .int (nI (8 * n))), (0, .ref b), (1, .ref x), (2, .ref mo), (3, .ref o)]) hx hb dL_law_566 hl (by decide) rfl (fun ls hl => ?_)
      refine lv_aload_n hx hb dL_law_568 rfl (lv_at hl 5 rfl) ?_
      obtain ⟨sc2, ad2, ar2, hMR2, hMI2, hsc2⟩ := id hM2
      refine lpV hx hb hml hts hown hE kwL_93 (c_mthrown E mo sc2 ad2 ar2 H2 hMR2.1) hMR2.1.1 rfl (by decide) rfl hl.1 rfl (Nat.le_of_ble_eq_true rfl) (by omega) (by omega) dL_law_569 ?_
      rw [hsc2]
      refine lv_iload hx hb dL_law_572 (lv_at hl 1 rfl) ?_
      refine lv_icmp_eq (tgt := 579) hx hb dL_law_574 (by decide) (fun c5 => ?_) (fun c5 => ?_)
      rotate_left
      · exact absurd (by rw [hcd]) c5
      refine lv_iload hx hb dL_law_579 (lv_at hl 1 rfl) ?_
      refine lv_if_ne (tgt := 596) hx hb dL_law_581 (by decide) (fun c6 => ?_) (fun c6 => ?_)
      · exact absurd (by rw [hcd]; rfl) c6
      refine lv_aload_n hx hb dL_law_584 rfl (lv_at hl 6 rfl) ?_
      refine lv_iconst (v := 0) hx hb dL_law_585 (by decide) ?_
      refine aJ0 hx hb hE hJ2 dL_law_586 ?_
      refine lv_iload hx hb dL_law_587 (lv_at hl 0 rfl) ?_
      refine lv_i2l hx hb dL_law_589 rfl ?_
      refine W.lcmp hx hb dL_law_590 ?_
      refine lv_if_eq (tgt := 596) hx hb dL_law_591 (by decide) (fun c7 => ?_) (fun c7 => ?_)
      rotate_left
      · exact absurd (lcmp_eq0.mpr (by rw [if_pos hcd]; exact hP1)) c7
      refine lv_goto (tgt := 1599) hx hb dL_law_596 (by decide) ?_
      exact kk H2 L2 _ _ ls hE hS2 ⟨ow1, h0, h1, fx, (ts ++ [(mkT (A 1) (A 2) 0 (A 4) (A 5) (A 6) (A 7), [], [])]), B, 0, f1, hX2, hM2, hJ2, ho9, hVn, by omega, by omega, by omega⟩ (lv_sub hl [2, 3, 4, 5, 6] rfl)
  · refine lv_iconst (v := 1) hx hb dL_law_473 (by decide) ?_
    refine lv_goto (tgt := 478) hx hb dL_law_474 (by decide) ?_
    refine lv_aload_n hx hb dL_law_478 rfl (lv_at hl 1 rfl) ?_
    refine lv_iload hx hb dL_law_479 (lv_at hl 0 rfl) ?_
    refine lv_iconst (v := 4) hx hb dL_law_481 (by decide) ?_
    refine lv_iadd hx hb dL_law_482 ?_
    refine lsd (k := 4) hx hb hXs hbl hbA hS hnL hL hA (by decide) (nI_add (8 * n) 4) dL_law_483 ?_
    refine lv_aload_n hx hb dL_law_484 rfl (lv_at hl 1 rfl) ?_
    refine lv_iload hx hb dL_law_485 (lv_at hl 0 rfl) ?_
    refine lv_iconst (v := 5) hx hb dL_law_487 (by decide) ?_
    refine lv_iadd hx hb dL_law_488 ?_
    refine lsd (k := 5) hx hb hXs hbl hbA hS hnL hL hA (by decide) (nI_add (8 * n) 5) dL_law_489 ?_
    refine lv_aload_n hx hb dL_law_490 rfl (lv_at hl 1 rfl) ?_
    refine lv_iload hx hb dL_law_491 (lv_at hl 0 rfl) ?_
    refine lv_bipush (v := 6) hx hb dL_law_493 (by decide) ?_
    refine lv_iadd hx hb dL_law_495 ?_
    refine lsd (k := 6) hx hb hXs hbl hbA hS hnL hL hA (by decide) (nI_add (8 * n) 6) dL_law_496 ?_
    refine lv_aload_n hx hb dL_law_497 rfl (lv_at hl 1 rfl) ?_
    refine lv_iload hx hb dL_law_498 (lv_at hl 0 rfl) ?_
    refine lv_bipush (v := 7) hx hb dL_law_500 (by decide) ?_
    refine lv_iadd hx hb dL_law_502 ?_
    refine lsd (k := 7) hx hb hXs hbl hbA hS hnL hL hA (by decide) (nI_add (8 * n) 7) dL_law_503 ?_
    refine lv_aload_n hx hb dL_law_504 rfl (lv_at hl 4 rfl) ?_
    refine lgW hx hb hml hts hown hB hE hS kwX_110 (w_trade E ow x o h0 h1 fx ts f (A 1) (A 2) 1 (A 4) (A 5) (A 6) (A 7) H hX hV hK hJ ho hgo (by decide)) (by decide) rfl hl.1 rfl (Nat.le_of_ble_eq_true rfl) (by omega) (by omega) dL_law_505 (fun v1 H1 L1 ho1 hz1 hE hS1 => ?_)
    obtain ⟨hv1, hw1⟩ := ho1
    subst hv1
    dsimp only [Option.toList, List.nil_append, List.cons_append]
    rcases hw1 with ⟨hcd, hw⟩ | ⟨hcd, hw⟩
    · obtain ⟨ow1, f1, hX1, hM1, hJ1, ho9, -⟩ := hw.go hMW hJ ho
      refine lv_istore (lv' := [(5, .int (nI (cdTrd ts (A 1) (A 2) (A 4) (A 5) (A 6) (A 7)))), (4, .int (nI (8 * n))), (0, .ref b), (1, .ref x), (2, .ref mo), (3, .ref o)]) hx hb dL_law_508 hl (by decide) rfl (fun ls hl => ?_)
      refine lv_aload_n hx hb dL_law_510 rfl (lv_at hl 4 rfl) ?_
      refine lv_aload_n hx hb dL_law_511 rfl (lv_at hl 2 rfl) ?_
      refine lv_iload hx hb dL_law_512 (lv_at hl 1 rfl) ?_
      refine lv_iconst (v := 1) hx hb dL_law_514 (by decide) ?_
      refine lv_iadd hx hb dL_law_515 ?_
      refine lsd (k := 1) hx hb hXs hbl hbA hS1 hnL hL hA (by decide) (nI_add (8 * n) 1) dL_law_516 ?_
      refine lv_aload_n hx hb dL_law_517 rfl (lv_at hl 2 rfl) ?_
      refine lv_iload hx hb dL_law_518 (lv_at hl 1 rfl) ?_
      refine lv_iconst (v := 2) hx hb dL_law_520 (by decide) ?_
      refine lv_iadd hx hb dL_law_521 ?_
      refine lsd (k := 2) hx hb hXs hbl hbA hS1 hnL hL hA (by decide) (nI_add (8 * n) 2) dL_law_522 ?_
      refine lv_aload_n hx hb dL_law_523 rfl (lv_at hl 2 rfl) ?_
      refine lv_iload hx hb dL_law_524 (lv_at hl 1 rfl) ?_
      refine lv_iconst (v := 3) hx hb dL_law_526 (by decide) ?_
      refine lv_iadd hx hb dL_law_527 ?_
      refine lsd (k := 3) hx hb hXs hbl hbA hS1 hnL hL hA (by decide) (nI_add (8 * n) 3) dL_law_528 ?_
      refine lv_if_eq (tgt := 536) hx hb dL_law_529 (by decide) (fun cz => ?_) (fun cz => ?_)
      · exact absurd cz cy
      refine lv_iconst (v := 1) hx hb dL_law_532 (by decide) ?_
      refine lv_goto (tgt := 537) hx hb dL_law_533 (by decide) ?_
      refine lv_aload_n hx hb dL_law_537 rfl (lv_at hl 2 rfl) ?_
      refine lv_iload hx hb dL_law_538 (lv_at hl 1 rfl) ?_
      refine lv_iconst (v := 4) hx hb dL_law_540 (by decide) ?_
      refine lv_iadd hx hb dL_law_541 ?_
      refine lsd (k := 4) hx hb hXs hbl hbA hS1 hnL hL hA (by decide) (nI_add (8 * n) 4) dL_law_542 ?_
      refine lv_aload_n hx hb dL_law_543 rfl (lv_at hl 2 rfl) ?_
      refine lv_iload hx hb dL_law_544 (lv_at hl 1 rfl) ?_
      refine lv_iconst (v := 5) hx hb dL_law_546 (by decide) ?_
      refine lv_iadd hx hb dL_law_547 ?_
      refine lsd (k := 5) hx hb hXs hbl hbA hS1 hnL hL hA (by decide) (nI_add (8 * n) 5) dL_law_548 ?_
      refine lv_aload_n hx hb dL_law_549 rfl (lv_at hl 2 rfl) ?_
      refine lv_iload hx hb dL_law_550 (lv_at hl 1 rfl) ?_
      refine lv_bipush (v := 6) hx hb dL_law_552 (by decide) ?_
      refine lv_iadd hx hb dL_law_554 ?_
      refine lsd (k := 6) hx hb hXs hbl hbA hS1 hnL hL hA (by decide) (nI_add (8 * n) 6) dL_law_555 ?_
      refine lv_aload_n hx hb dL_law_556 rfl (lv_at hl 2 rfl) ?_
      refine lv_iload hx hb dL_law_557 (lv_at hl 1 rfl) ?_
      refine lv_bipush (v := 7) hx hb dL_law_559 (by decide) ?_
      refine lv_iadd hx hb dL_law_561 ?_
      refine lsd (k := 7) hx hb hXs hbl hbA hS1 hnL hL hA (by decide) (nI_add (8 * n) 7) dL_law_562 ?_
      obtain ⟨sc, ad, ar, hMR, hMI, hsc⟩ := hM1
      refine lgV hx hb hml hts hown hB hE hS1 kwL_113 (c_mtrd E ow1 mo sc ad ar h0 h1 fx ts B (A 1) (A 2) 1 (A 4) (A 5) (A 6) (A 7) H1 hMR hMI hV (by decide)) hMR.1.1 rfl (by decide) rfl hl.1 rfl (Nat.le_of_ble_eq_true rfl) (by omega) (by omega) dL_law_563 (fun H2 L2 hG2 hz2 hE hS2 => ?_)
      have hG2 := (hG2.resolve_right (fun q => hcd q.1)).2
      obtain ⟨hX2, hM2, hJ2⟩ := hG2.go hX1 hJ1 ho9 (old9 hB hS1 hS2) hBF
      refine lv_istore (lv' := [(6, .int (if cdTrd ts (A 1) (A 2) (A 4) (A 5) (A 6) (A 7) = 0 then (nI ts.length) else 0)), (5, .int (nI (cdTrd ts (A 1) (A 2) (A 4) (A 5) (A 6) (A 7)))), (4, .int (nI (8 * n))), (0, .ref b), (1, .ref x), (2, .ref mo), (3, .ref o)]) hx hb dL_law_566 hl (by decide) rfl (fun ls hl => ?_)
      refine lv_aload_n hx hb dL_law_568 rfl (lv_at hl 5 rfl) ?_
      obtain ⟨sc2, ad2, ar2, hMR2, hMI2, hsc2⟩ := id hM2
      refine lpV hx hb hml hts hown hE kwL_93 (c_mthrown E mo sc2 ad2 ar2 H2 hMR2.1) hMR2.1.1 rfl (by decide) rfl hl.1 rfl (Nat.le_of_ble_eq_true rfl) (by omega) (by omega) dL_law_569 ?_
      rw [hsc2]
      refine lv_iload hx hb dL_law_572 (lv_at hl 1 rfl) ?_
      refine lv_icmp_eq (tgt := 579) hx hb dL_law_574 (by decide) (fun c5 => ?_) (fun c5 => ?_)
      rotate_left
      · exact absurd rfl c5
      refine lv_iload hx hb dL_law_579 (lv_at hl 1 rfl) ?_
      refine lv_if_ne (tgt := 596) hx hb dL_law_581 (by decide) (fun c6 => ?_) (fun c6 => ?_)
      rotate_left
      · exact absurd c6 (cd_ne (cdTrd_le _ _ _ _ _ _ _) hcd)
      refine lv_goto (tgt := 1599) hx hb dL_law_596 (by decide) ?_
      exact kk H2 L2 _ _ ls hE hS2 ⟨ow1, h0, h1, fx, ts, B, cdTrd ts (A 1) (A 2) (A 4) (A 5) (A 6) (A 7), f1, hX2, hM2, hJ2, ho9, hV, by omega, by omega, by omega⟩ (lv_sub hl [2, 3, 4, 5, 6] rfl)
    · obtain ⟨ow1, f1, hX1, hM1, hJ1, ho9, hP1⟩ := hw.go hMW hJ ho
      refine lv_istore (lv' := [(5, .int (nI (cdTrd ts (A 1) (A 2) (A 4) (A 5) (A 6) (A 7)))), (4, .int (nI (8 * n))), (0, .ref b), (1, .ref x), (2, .ref mo), (3, .ref o)]) hx hb dL_law_508 hl (by decide) rfl (fun ls hl => ?_)
      refine lv_aload_n hx hb dL_law_510 rfl (lv_at hl 4 rfl) ?_
      refine lv_aload_n hx hb dL_law_511 rfl (lv_at hl 2 rfl) ?_
      refine lv_iload hx hb dL_law_512 (lv_at hl 1 rfl) ?_
      refine lv_iconst (v := 1) hx hb dL_law_514 (by decide) ?_
      refine lv_iadd hx hb dL_law_515 ?_
      refine lsd (k := 1) hx hb hXs hbl hbA hS1 hnL hL hA (by decide) (nI_add (8 * n) 1) dL_law_516 ?_
      refine lv_aload_n hx hb dL_law_517 rfl (lv_at hl 2 rfl) ?_
      refine lv_iload hx hb dL_law_518 (lv_at hl 1 rfl) ?_
      refine lv_iconst (v := 2) hx hb dL_law_520 (by decide) ?_
      refine lv_iadd hx hb dL_law_521 ?_
      refine lsd (k := 2) hx hb hXs hbl hbA hS1 hnL hL hA (by decide) (nI_add (8 * n) 2) dL_law_522 ?_
      refine lv_aload_n hx hb dL_law_523 rfl (lv_at hl 2 rfl) ?_
      refine lv_iload hx hb dL_law_524 (lv_at hl 1 rfl) ?_
      refine lv_iconst (v := 3) hx hb dL_law_526 (by decide) ?_
      refine lv_iadd hx hb dL_law_527 ?_
      refine lsd (k := 3) hx hb hXs hbl hbA hS1 hnL hL hA (by decide) (nI_add (8 * n) 3) dL_law_528 ?_
      refine lv_if_eq (tgt := 536) hx hb dL_law_529 (by decide) (fun cz => ?_) (fun cz => ?_)
      · exact absurd cz cy
      refine lv_iconst (v := 1) hx hb dL_law_532 (by decide) ?_
      refine lv_goto (tgt := 537) hx hb dL_law_533 (by decide) ?_
      refine lv_aload_n hx hb dL_law_537 rfl (lv_at hl 2 rfl) ?_
      refine lv_iload hx hb dL_law_538 (lv_at hl 1 rfl) ?_
      refine lv_iconst (v := 4) hx hb dL_law_540 (by decide) ?_
      refine lv_iadd hx hb dL_law_541 ?_
      refine lsd (k := 4) hx hb hXs hbl hbA hS1 hnL hL hA (by decide) (nI_add (8 * n) 4) dL_law_542 ?_
      refine lv_aload_n hx hb dL_law_543 rfl (lv_at hl 2 rfl) ?_
      refine lv_iload hx hb dL_law_544 (lv_at hl 1 rfl) ?_
      refine lv_iconst (v := 5) hx hb dL_law_546 (by decide) ?_
      refine lv_iadd hx hb dL_law_547 ?_
      refine lsd (k := 5) hx hb hXs hbl hbA hS1 hnL hL hA (by decide) (nI_add (8 * n) 5) dL_law_548 ?_
      refine lv_aload_n hx hb dL_law_549 rfl (lv_at hl 2 rfl) ?_
      refine lv_iload hx hb dL_law_550 (lv_at hl 1 rfl) ?_
      refine lv_bipush (v := 6) hx hb dL_law_552 (by decide) ?_
      refine lv_iadd hx hb dL_law_554 ?_
      refine lsd (k := 6) hx hb hXs hbl hbA hS1 hnL hL hA (by decide) (nI_add (8 * n) 6) dL_law_555 ?_
      refine lv_aload_n hx hb dL_law_556 rfl (lv_at hl 2 rfl) ?_
      refine lv_iload hx hb dL_law_557 (lv_at hl 1 rfl) ?_
      refine lv_bipush (v := 7) hx hb dL_law_559 (by decide) ?_
      refine lv_iadd hx hb dL_law_561 ?_
      refine lsd (k := 7) hx hb hXs hbl hbA hS1 hnL hL hA (by decide) (nI_add (8 * n) 7) dL_law_562 ?_
      obtain ⟨sc, ad, ar, hMR, hMI, hsc⟩ := hM1
      refine lgV hx hb hml hts hown hB hE hS1 kwL_113 (c_mtrd E ow1 mo sc ad ar h0 h1 fx ts B (A 1) (A 2) 1 (A 4) (A 5) (A 6) (A 7) H1 hMR hMI hV (by decide)) hMR.1.1 rfl (by decide) rfl hl.1 rfl (Nat.le_of_ble_eq_true rfl) (by omega) (by omega) dL_law_563 (fun H2 L2 hG2 hz2 hE hS2 => ?_)
      have hG2 := (hG2.resolve_left (fun q => q.1 hcd)).2
      obtain ⟨hX2, hM2, hJ2⟩ := hG2.go hX1 hJ1 ho9 (old9 hB hS1 hS2) hBF
      have hVn := sv_trd (py := 1) hV (by decide) hcd
      have hzn := zc_app ((mkT (A 1) (A 2) 1 (A 4) (A 5) (A 6) (A 7), [], []) : TR) ts
      refine lv_istore (lv' := [(6, .int (if cdTrd ts (A 1) (A 2) (A 4) (A 5) (A 6) (A 7) = 0 then (nI ts.length) else 0)), (5, .int (nI (cdTrd ts (A 1) (A 2) (A 4) (A 5) (A 6) (A 7)))), (4, .int (nI (8 * n))), (0, .ref b), (1, .ref x), (2, .ref mo), (3, .ref o)]) hx hb dL_law_566 hl (by decide) rfl (fun ls hl => ?_)
      refine lv_aload_n hx hb dL_law_568 rfl (lv_at hl 5 rfl) ?_
      obtain ⟨sc2, ad2, ar2, hMR2, hMI2, hsc2⟩ := id hM2
      refine lpV hx hb hml hts hown hE kwL_93 (c_mthrown E mo sc2 ad2 ar2 H2 hMR2.1) hMR2.1.1 rfl (by decide) rfl hl.1 rfl (Nat.le_of_ble_eq_true rfl) (by omega) (by omega) dL_law_569 ?_
      rw [hsc2]
      refine lv_iload hx hb dL_law_572 (lv_at hl 1 rfl) ?_
      refine lv_icmp_eq (tgt := 579) hx hb dL_law_574 (by decide) (fun c5 => ?_) (fun c5 => ?_)
      rotate_left
      · exact absurd (by rw [hcd]) c5
      refine lv_iload hx hb dL_law_579 (lv_at hl 1 rfl) ?_
      refine lv_if_ne (tgt := 596) hx hb dL_law_581 (by decide) (fun c6 => ?_) (fun c6 => ?_)
      · exact absurd (by rw [hcd]; rfl) c6
      refine lv_aload_n hx hb dL_law_584 rfl (lv_at hl 6 rfl) ?_
      refine lv_iconst (v := 0) hx hb dL_law_585 (by decide) ?_
      refine aJ0 hx hb hE hJ2 dL_law_586 ?_
      refine lv_iload hx hb dL_law_587 (lv_at hl 0 rfl) ?_
      refine lv_i2l hx hb dL_law_589 rfl ?_
      refine W.lcmp hx hb dL_law_590 ?_
      refine lv_if_eq (tgt := 596) hx hb dL_law_591 (by decide) (fun c7 => ?_) (fun c7 => ?_)
      rotate_left
      · exact absurd (lcmp_eq0.mpr (by rw [if_pos hcd]; exact hP1)) c7
      refine lv_goto (tgt := 1599) hx hb dL_law_596 (by decide) ?_
      exact kk H2 L2 _ _ ls hE hS2 ⟨ow1, h0, h1, fx, (ts ++ [(mkT (A 1) (A 2) 1 (A 4) (A 5) (A 6) (A 7), [], [])]), B, 0, f1, hX2, hM2, hJ2, ho9, hVn, by omega, by omega, by omega⟩ (lv_sub hl [2, 3, 4, 5, 6] rfl)

set_option maxRecDepth 100000 in
set_option maxHeartbeats 4000000 in
/-- press -/
theorem lc_9 {p : Program} {e : Env} {s : State} {m : MethodId} {below : List Frame} {meth : Method} {c : Code} {Q : State → Prop} {b L n : Nat} {xs A : Nat → Int32} {E : ET} {x mo o cells slots : Nat} {H : Heap} {locs : List Loc} {ls : Array Slot} (hC : LX p s m c b L n xs A E o) (hE : EV E s H) (hS : va_S (fr E) s.heap H locs) (hI : LI E x mo o n cells slots H) (hl : lv_has ls 8 [(4, .int (nI (8 * n))), (0, .ref b), (1, .ref x), (2, .ref mo), (3, .ref o)])
    (kk : ∀ (H1 : Heap) (locs1 : List Loc) (cells1 slots1 : Nat) (ls1 : Array Slot), EV E s H1 → va_S (fr E) s.heap H1 locs1 → LI E x mo o (n + 1) cells1 slots1 H1 → lv_has ls1 8 [(4, .int (nI (8 * n))), (0, .ref b), (1, .ref x), (2, .ref mo), (3, .ref o)] → W p (eL E) e room_1 s m #[Value.ref b] below meth c H1 locs1 cells1 slots1 Q (F0 m 1599 ls1 [])) : W p (eL E) e room_1 s m #[Value.ref b] below meth c H locs cells slots Q (F0 m 831 ls []) := by
  obtain ⟨hx, hb, hml, hown, hts, hBE, hXs, hbl, hgo, hnL, hL, hA⟩ := hC
  obtain ⟨ow, h0, h1, fx, ts, B, c9, f, hX, hMW, hJ, ho, hV, hBl, hcl, hsl⟩ := hI
  have hB : eB E ≤ s.heap.size := Nat.le_of_eq hBE
  have hbA : ¬ fr E b := by show ¬ eB E ≤ b; omega
  have hBF := hE.2.2.1
  have htn := hV.tn
  have hzl := zc_le ts
  have hbl9 := hMW.bl
  have hK : BL ts := fun tr ht => by have := hbl9 tr ht; omega
  cases hin : inB (A 1) 0 3000 with
  | false =>
    have hcn := prs_cn h0 h1 (A 1) ts htn
    have hcd : ¬ cdDay (A 1) = 0 := fun q => by have := cdDay_0.mp q; rw [hin] at this; cases this
    refine lv_aload_n hx hb dL_law_831 rfl (lv_at hl 2 rfl) ?_
    refine lv_aload_n hx hb dL_law_832 rfl (lv_at hl 1 rfl) ?_
    refine lv_iload hx hb dL_law_833 (lv_at hl 0 rfl) ?_
    refine lv_iconst (v := 1) hx hb dL_law_835 (by decide) ?_
    refine lv_iadd hx hb dL_law_836 ?_
    refine lsd (k := 1) hx hb hXs hbl hbA hS hnL hL hA (by decide) (nI_add (8 * n) 1) dL_law_837 ?_
    refine lv_aload_n hx hb dL_law_838 rfl (lv_at hl 4 rfl) ?_
    refine lgW hx hb hml hts hown hB hE hS kwX_125 (w_press0 E ow x o h0 h1 fx ts f (A 1) H hX hJ hin) (by decide) rfl hl.1 rfl (Nat.le_of_ble_eq_true rfl) (by omega) (by omega) dL_law_839 (fun v1 H1 L1 ho1 hz1 hE hS1 => ?_)
    obtain ⟨hv1, hw1⟩ := ho1
    subst hv1
    dsimp only [Option.toList, List.nil_append, List.cons_append]
    obtain ⟨ow1, f1, hX1, hM1, hJ1, ho9, -⟩ := hw1.go hMW hJ ho
    refine lv_istore (lv' := [(5, .int (nI (cdDay (A 1)))), (4, .int (nI (8 * n))), (0, .ref b), (1, .ref x), (2, .ref mo), (3, .ref o)]) hx hb dL_law_842 hl (by decide) rfl (fun ls hl => ?_)
    refine lv_aload_n hx hb dL_law_844 rfl (lv_at hl 4 rfl) ?_
    refine lv_aload_n hx hb dL_law_845 rfl (lv_at hl 2 rfl) ?_
    refine lv_iload hx hb dL_law_846 (lv_at hl 1 rfl) ?_
    refine lv_iconst (v := 1) hx hb dL_law_848 (by decide) ?_
    refine lv_iadd hx hb dL_law_849 ?_
    refine lsd (k := 1) hx hb hXs hbl hbA hS1 hnL hL hA (by decide) (nI_add (8 * n) 1) dL_law_850 ?_
    obtain ⟨sc, ad, ar, hMR, hMI, hsc⟩ := hM1
    refine lgV hx hb hml hts hown hB hE hS1 kwL_127 (c_mpress E ow1 mo sc ad ar h0 h1 fx ts B (A 1) H1 hMR hMI hV (by omega)) hMR.1.1 rfl (by decide) rfl hl.1 rfl (Nat.le_of_ble_eq_true rfl) (by omega) (by omega) dL_law_851 (fun H2 L2 hG2 hz2 hE hS2 => ?_)
    have hG2 := (hG2.resolve_right (fun q => hcd q.1)).2
    obtain ⟨hX2, hM2, hJ2⟩ := hG2.go hX1 hJ1 ho9 (old9 hB hS1 hS2) hBF
    refine lv_istore (lv' := [(6, .int (if cdDay (A 1) = 0 then (prs h0 h1 (A 1) ts).2.1 else 0)), (5, .int (nI (cdDay (A 1)))), (4, .int (nI (8 * n))), (0, .ref b), (1, .ref x), (2, .ref mo), (3, .ref o)]) hx hb dL_law_854 hl (by decide) rfl (fun ls hl => ?_)
    refine lv_aload_n hx hb dL_law_856 rfl (lv_at hl 5 rfl) ?_
    obtain ⟨sc2, ad2, ar2, hMR2, hMI2, hsc2⟩ := id hM2
    refine lpV hx hb hml hts hown hE kwL_93 (c_mthrown E mo sc2 ad2 ar2 H2 hMR2.1) hMR2.1.1 rfl (by decide) rfl hl.1 rfl (Nat.le_of_ble_eq_true rfl) (by omega) (by omega) dL_law_857 ?_
    rw [hsc2]
    refine lv_iload hx hb dL_law_860 (lv_at hl 1 rfl) ?_
    refine lv_icmp_eq (tgt := 867) hx hb dL_law_862 (by decide) (fun c5 => ?_) (fun c5 => ?_)
    rotate_left
    · exact absurd rfl c5
    refine lv_iload hx hb dL_law_867 (lv_at hl 1 rfl) ?_
    refine lv_if_ne (tgt := 884) hx hb dL_law_869 (by decide) (fun c6 => ?_) (fun c6 => ?_)
    rotate_left
    · exact absurd c6 (cd_ne (Nat.le_trans (cdDay_le _) (by decide)) hcd)
    refine lv_goto (tgt := 1599) hx hb dL_law_884 (by decide) ?_
    exact kk H2 L2 _ _ ls hE hS2 ⟨ow1, h0, h1, fx, ts, B, cdDay (A 1), f1, hX2, hM2, hJ2, ho9, hV, by omega, by omega, by omega⟩ (lv_sub hl [2, 3, 4, 5, 6] rfl)
  | true =>
    have hcn := prs_cn h0 h1 (A 1) ts htn
    have hcd : cdDay (A 1) = 0 := cdDay_0.mpr hin
    obtain ⟨hVn, hzn⟩ := sv_prs (K := B.length) hV hbl9 hin
    have hzn2 := zc_le (prs h0 h1 (A 1) ts).1
    have htn2 := hVn.tn
    have hbn : (B ++ (prs h0 h1 (A 1) ts).2.2.2).length = B.length + 2 * (prs h0 h1 (A 1) ts).2.2.1 := by rw [List.length_append, prs_bk]
    refine lv_aload_n hx hb dL_law_831 rfl (lv_at hl 2 rfl) ?_
    refine lv_aload_n hx hb dL_law_832 rfl (lv_at hl 1 rfl) ?_
    refine lv_iload hx hb dL_law_833 (lv_at hl 0 rfl) ?_
    refine lv_iconst (v := 1) hx hb dL_law_835 (by decide) ?_
    refine lv_iadd hx hb dL_law_836 ?_
    refine lsd (k := 1) hx hb hXs hbl hbA hS hnL hL hA (by decide) (nI_add (8 * n) 1) dL_law_837 ?_
    refine lv_aload_n hx hb dL_law_838 rfl (lv_at hl 4 rfl) ?_
    refine lgW hx hb hml hts hown hB hE hS kwX_125 (w_press E ow x o h0 h1 fx ts f (A 1) B.length 600 H hX hV hK hJ ho hgo hbl9 (by omega) (by decide)) (by decide) rfl hl.1 rfl (Nat.le_of_ble_eq_true rfl) (by omega) (by omega) dL_law_839 (fun v1 H1 L1 ho1 hz1 hE hS1 => ?_)
    obtain ⟨hv1, hw1⟩ := ho1
    subst hv1
    dsimp only [Option.toList, List.nil_append, List.cons_append]
    have hw := (hw1.resolve_left (fun q => q.1 hcd)).2
    obtain ⟨ow1, f1, hX1, hM1, hJ1, ho9, hP1⟩ := hw.go hMW hJ ho
    refine lv_istore (lv' := [(5, .int (nI (cdDay (A 1)))), (4, .int (nI (8 * n))), (0, .ref b), (1, .ref x), (2, .ref mo), (3, .ref o)]) hx hb dL_law_842 hl (by decide) rfl (fun ls hl => ?_)
    refine lv_aload_n hx hb dL_law_844 rfl (lv_at hl 4 rfl) ?_
    refine lv_aload_n hx hb dL_law_845 rfl (lv_at hl 2 rfl) ?_
    refine lv_iload hx hb dL_law_846 (lv_at hl 1 rfl) ?_
    refine lv_iconst (v := 1) hx hb dL_law_848 (by decide) ?_
    refine lv_iadd hx hb dL_law_849 ?_
    refine lsd (k := 1) hx hb hXs hbl hbA hS1 hnL hL hA (by decide) (nI_add (8 * n) 1) dL_law_850 ?_
    obtain ⟨sc, ad, ar, hMR, hMI, hsc⟩ := hM1
    refine lgV hx hb hml hts hown hB hE hS1 kwL_127 (c_mpress E ow1 mo sc ad ar h0 h1 fx ts B (A 1) H1 hMR hMI hV (by omega)) hMR.1.1 rfl (by decide) rfl hl.1 rfl (Nat.le_of_ble_eq_true rfl) (by omega) (by omega) dL_law_851 (fun H2 L2 hG2 hz2 hE hS2 => ?_)
    have hG2 := (hG2.resolve_left (fun q => q.1 hcd)).2
    obtain ⟨hX2, hM2, hJ2⟩ := hG2.go hX1 hJ1 ho9 (old9 hB hS1 hS2) hBF
    refine lv_istore (lv' := [(6, .int (if cdDay (A 1) = 0 then (prs h0 h1 (A 1) ts).2.1 else 0)), (5, .int (nI (cdDay (A 1)))), (4, .int (nI (8 * n))), (0, .ref b), (1, .ref x), (2, .ref mo), (3, .ref o)]) hx hb dL_law_854 hl (by decide) rfl (fun ls hl => ?_)
    refine lv_aload_n hx hb dL_law_856 rfl (lv_at hl 5 rfl) ?_
    obtain ⟨sc2, ad2, ar2, hMR2, hMI2, hsc2⟩ := id hM2
    refine lpV hx hb hml hts hown hE kwL_93 (c_mthrown E mo sc2 ad2 ar2 H2 hMR2.1) hMR2.1.1 rfl (by decide) rfl hl.1 rfl (Nat.le_of_ble_eq_true rfl) (by omega) (by omega) dL_law_857 ?_
    rw [hsc2]
    refine lv_iload hx hb dL_law_860 (lv_at hl 1 rfl) ?_
    refine lv_icmp_eq (tgt := 867) hx hb dL_law_862 (by decide) (fun c5 => ?_) (fun c5 => ?_)
    rotate_left
    · exact absurd (by rw [hcd]) c5
    refine lv_iload hx hb dL_law_867 (lv_at hl 1 rfl) ?_
    refine lv_if_ne (tgt := 884) hx hb dL_law_869 (by decide) (fun c6 => ?_) (fun c6 => ?_)
    · exact absurd (by rw [hcd]; rfl) c6
    refine lv_aload_n hx hb dL_law_872 rfl (lv_at hl 6 rfl) ?_
    refine lv_iconst (v := 0) hx hb dL_law_873 (by decide) ?_
    refine aJ0 hx hb hE hJ2 dL_law_874 ?_
    refine lv_iload hx hb dL_law_875 (lv_at hl 0 rfl) ?_
    refine lv_i2l hx hb dL_law_877 rfl ?_
    refine W.lcmp hx hb dL_law_878 ?_
    refine lv_if_eq (tgt := 884) hx hb dL_law_879 (by decide) (fun c7 => ?_) (fun c7 => ?_)
    rotate_left
    · exact absurd (lcmp_eq0.mpr (by rw [if_pos hcd]; exact hP1)) c7
    refine lv_goto (tgt := 1599) hx hb dL_law_884 (by decide) ?_
    exact kk H2 L2 _ _ ls hE hS2 ⟨ow1, h0, h1, fx, (prs h0 h1 (A 1) ts).1, (B ++ (prs h0 h1 (A 1) ts).2.2.2), 0, f1, hX2, hM2, hJ2, ho9, hVn, by omega, by omega, by omega⟩ (lv_sub hl [2, 3, 4, 5, 6] rfl)

set_option maxRecDepth 100000 in
set_option maxHeartbeats 4000000 in
/-- trades -/
theorem lc_10 {p : Program} {e : Env} {s : State} {m : MethodId} {below : List Frame} {meth : Method} {c : Code} {Q : State → Prop} {b L n : Nat} {xs A : Nat → Int32} {E : ET} {x mo o cells slots : Nat} {H : Heap} {locs : List Loc} {ls : Array Slot} (hC : LX p s m c b L n xs A E o) (hE : EV E s H) (hS : va_S (fr E) s.heap H locs) (hI : LI E x mo o n cells slots H) (hl : lv_has ls 8 [(4, .int (nI (8 * n))), (0, .ref b), (1, .ref x), (2, .ref mo), (3, .ref o)])
    (kk : ∀ (H1 : Heap) (locs1 : List Loc) (cells1 slots1 : Nat) (ls1 : Array Slot), EV E s H1 → va_S (fr E) s.heap H1 locs1 → LI E x mo o (n + 1) cells1 slots1 H1 → lv_has ls1 8 [(4, .int (nI (8 * n))), (0, .ref b), (1, .ref x), (2, .ref mo), (3, .ref o)] → W p (eL E) e room_1 s m #[Value.ref b] below meth c H1 locs1 cells1 slots1 Q (F0 m 1599 ls1 [])) : W p (eL E) e room_1 s m #[Value.ref b] below meth c H locs cells slots Q (F0 m 887 ls []) := by
  obtain ⟨hx, hb, hml, hown, hts, hBE, hXs, hbl, hgo, hnL, hL, hA⟩ := hC
  obtain ⟨ow, h0, h1, fx, ts, B, c9, f, hX, hMW, hJ, ho, hV, hBl, hcl, hsl⟩ := hI
  have hB : eB E ≤ s.heap.size := Nat.le_of_eq hBE
  have hbA : ¬ fr E b := by show ¬ eB E ≤ b; omega
  have hBF := hE.2.2.1
  have htn := hV.tn
  have hzl := zc_le ts
  have hbl9 := hMW.bl
  have hK : BL ts := fun tr ht => by have := hbl9 tr ht; omega
  refine lv_aload_n hx hb dL_law_887 rfl (lv_at hl 2 rfl) ?_
  have hO := hX.x.choose_spec.choose_spec.choose_spec.choose_spec.1
  refine lpV hx hb hml hts hown hE kwL_128 (c_xtrades E ow x h0 h1 fx ts H hX hV hK) hO rfl (by decide) rfl hl.1 rfl (Nat.le_of_ble_eq_true rfl) (by omega) (by omega) dL_law_888 ?_
  refine lv_aload_n hx hb dL_law_891 rfl (lv_at hl 3 rfl) ?_
  obtain ⟨sc, ad, ar, hMR, hMI, hsc⟩ := id hMW
  refine lgV hx hb hml hts hown hB hE hS kwL_131 (c_mtrades E ow mo sc ad ar h0 h1 fx ts B H hMR hMI hV) hMR.1.1 rfl (by decide) rfl hl.1 rfl (Nat.le_of_ble_eq_true rfl) (by omega) (by omega) dL_law_892 (fun H2 L2 hG2 hz2 hE hS2 => ?_)
  obtain ⟨hX2, hM2, hJ2⟩ := hG2.go hX hJ ho (old9 hB hS hS2) hBF
  refine lv_icmp_eq (tgt := 1599) hx hb dL_law_895 (by decide) (fun c5 => ?_) (fun c5 => ?_)
  rotate_left
  · exact absurd rfl c5
  exact kk H2 L2 _ _ ls hE hS2 ⟨ow, h0, h1, fx, ts, B, 0, f, hX2, hM2, hJ2, ho, hV, by omega, by omega, by omega⟩ (lv_sub hl [0, 1, 2, 3, 4] rfl)
