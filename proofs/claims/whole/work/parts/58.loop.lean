theorem and31 (x : Int32) : ∃ j, j < 32 ∧ x &&& 31 = nI j := by
  refine ⟨(x &&& 31).toBitVec.toNat, ?_, ?_⟩
  · rw [Int32.toBitVec_and, BitVec.toNat_and]
    exact Nat.lt_of_le_of_lt Nat.and_le_right (by decide)
  · exact Int32.toBitVec.inj (by show _ = BitVec.ofNat 32 _; rw [BitVec.ofNat_toNat, BitVec.setWidth_eq])
theorem sub8 {L : Nat} (hL : L ≤ 4096) : (nI L - 8).toInt = (L : Int) - 8 := by
  have h8 : (8 : Int32).toInt = 8 := by decide
  rw [Int32.toInt_sub, nI_toInt (by omega), h8]
  exact Int.bmod_eq_of_le (by omega) (by omega)
theorem ex_gt {n L : Nat} (h : L < 8 * n + 8) (hL : L ≤ 4096) (hn : 8 * n ≤ L) : nI L - 8 < nI (8 * n) := by
  rw [Int32.lt_iff_toInt_lt, sub8 hL, nI_toInt (by omega)]
  omega
theorem ex_le {n L : Nat} (h : 8 * n + 8 ≤ L) (hL : L ≤ 4096) : ¬ nI L - 8 < nI (8 * n) := by
  rw [Int32.lt_iff_toInt_lt, sub8 hL, nI_toInt (by omega)]
  omega
set_option maxRecDepth 100000 in
set_option maxHeartbeats 4000000 in
/-- the law's end: true -/
theorem law_exit {p : Program} {e : Env} {s : State} {m : MethodId} {below : List Frame} {meth : Method} {c : Code} {b L n : Nat} {xs : Nat → Int32} {E : ET} {x mo o cells slots : Nat} {H : Heap} {locs : List Loc} {ls : Array Slot} (hL : L ≤ 4096) (hx : p.tables.exec = Jvm.exec) (hb : c.code = cL_law) (hr : meth.sig.returnType = ret) (hlk : meth.locks = false) (hBE : eB E = s.heap.size) (hXs : va_X b L xs s s.heap) (hbl : b < s.heap.size) (hn8 : 8 * n ≤ L) (hnL : L < 8 * n + 8) (hS : va_S (fr E) s.heap H locs) (hI : LI E x mo o n cells slots H) (hl : lv_has ls 8 [(4, .int (nI (8 * n))), (0, .ref b), (1, .ref x), (2, .ref mo), (3, .ref o)]) : W p (eL E) e room_1 s m #[Value.ref b] below meth c H locs cells slots (lw_Z below #[Value.ref b] s) (F0 m 23 ls []) := by
  obtain ⟨ow, h0, h1, fx, ts, B, c9, f, hX, hMW, hJ, ho, hV, hBl, hcl, hsl⟩ := hI
  have htn := hV.tn
  have hzl := zc_le ts
  have hbA : ¬ fr E b := by show ¬ eB E ≤ b; omega
  refine lv_iload hx hb dL_law_23 (lv_at hl 0 rfl) ?_
  refine lv_aload_n hx hb dL_law_25 rfl (lv_at hl 1 rfl) ?_
  refine va_slen hx hb hXs hbl hbA hS dL_law_26 ?_
  refine lv_bipush (v := 8) hx hb dL_law_27 (by decide) ?_
  refine lv_isub hx hb dL_law_29 ?_
  refine lv_icmp_gt (tgt := 1605) hx hb dL_law_30 (by decide) (fun c1 => ?_) (fun c1 => absurd (ex_gt hnL hL hn8) c1)
  refine lv_iconst (v := 1) hx hb dL_law_1605 (by decide) ?_
  refine va_forget (fun q hq => by have : eB E ≤ q.base := hS.2.2 q hq; omega) ?_
  refine W.widen (k := 601024) (n := 7293033) (by omega) (by omega) ?_
  exact lw_ret hx hb hr hlk dL_law_1606
set_option maxRecDepth 100000 in
set_option maxHeartbeats 4000000 in
/-- THE LAW'S LOOP -/
theorem law_loop {p : Program} {e : Env} {s : State} {m : MethodId} {below : List Frame} {meth : Method} {c : Code} {b L : Nat} {xs : Nat → Int32} {E : ET} {x mo o : Nat} (hL : L ≤ 4096) (hx : p.tables.exec = Jvm.exec) (hb : c.code = cL_law) (hr : meth.sig.returnType = ret) (hml : c.maxLocals = 8) (hown : s.vm.findClass RL = some m.cls) (hts : ∀ w ∈ Tw, w.before #[Value.ref b] s = true) (hlk : meth.locks = false) (hBE : eB E = s.heap.size) (hXs : va_X b L xs s s.heap) (hbl : b < s.heap.size) (hgo : eB E ≤ o) : ∀ (r n : Nat) (H : Heap) (locs : List Loc) (cells slots : Nat) (ls : Array Slot), 8 * n ≤ L → L < 8 * (n + r) + 8 → EV E s H → va_S (fr E) s.heap H locs → LI E x mo o n cells slots H → lv_has ls 8 [(4, .int (nI (8 * n))), (0, .ref b), (1, .ref x), (2, .ref mo), (3, .ref o)] → W p (eL E) e room_1 s m #[Value.ref b] below meth c H locs cells slots (lw_Z below #[Value.ref b] s) (F0 m 23 ls []) := by
  intro r
  induction r with
  | zero =>
    intro n H locs cells slots ls hn8 hnr hE hS hI hl
    exact law_exit hL hx hb hr hlk hBE hXs hbl hn8 hnr hS hI hl
  | succ r ih =>
    intro n H locs cells slots ls hn8 hnr hE hS hI hl
    rcases Nat.lt_or_ge L (8 * n + 8) with hq | hnL
    · exact law_exit hL hx hb hr hlk hBE hXs hbl hn8 hq hS hI hl
    have hbA : ¬ fr E b := by show ¬ eB E ≤ b; omega
    have hC : LX p s m c b L n xs (fun k => xs (8 * n + k)) E o := ⟨hx, hb, hml, hown, hts, hBE, hXs, hbl, hgo, hnL, hL, fun k hk => rfl⟩
    have kk : ∀ (H1 : Heap) (locs1 : List Loc) (cells1 slots1 : Nat) (ls1 : Array Slot), EV E s H1 → va_S (fr E) s.heap H1 locs1 → LI E x mo o (n + 1) cells1 slots1 H1 → lv_has ls1 8 [(4, .int (nI (8 * n))), (0, .ref b), (1, .ref x), (2, .ref mo), (3, .ref o)] → W p (eL E) e room_1 s m #[Value.ref b] below meth c H1 locs1 cells1 slots1 (lw_Z below #[Value.ref b] s) (F0 m 1599 ls1 []) := by
      intro H1 locs1 cells1 slots1 ls1 hE1 hS1 hI1 hl1
      refine lv_iinc (v := nI (8 * (n + 1))) (lv' := [(4, .int (nI (8 * (n + 1)))), (0, .ref b), (1, .ref x), (2, .ref mo), (3, .ref o)]) hx hb dL_law_1599 hl1 (k := 0) rfl (by rw [show Int32.ofInt 8 = nI 8 by decide]; exact nI_add (8 * n) 8) (by decide) rfl (fun ls hl => ?_)
      refine lv_goto (tgt := 23) hx hb dL_law_1602 (by decide) ?_
      exact ih (n + 1) H1 locs1 cells1 slots1 ls (by omega) (by omega) hE1 hS1 hI1 hl
    refine lv_iload hx hb dL_law_23 (lv_at hl 0 rfl) ?_
    refine lv_aload_n hx hb dL_law_25 rfl (lv_at hl 1 rfl) ?_
    refine va_slen hx hb hXs hbl hbA hS dL_law_26 ?_
    refine lv_bipush (v := 8) hx hb dL_law_27 (by decide) ?_
    refine lv_isub hx hb dL_law_29 ?_
    refine lv_icmp_gt (tgt := 1605) hx hb dL_law_30 (by decide) (fun c1 => absurd c1 (ex_le hnL hL)) (fun c1 => ?_)
    refine lv_aload_n hx hb dL_law_33 rfl (lv_at hl 1 rfl) ?_
    refine lv_iload hx hb dL_law_34 (lv_at hl 0 rfl) ?_
    refine lsd (k := 0) (A := fun k => xs (8 * n + k)) hx hb hXs hbl hbA hS hnL hL (fun k hk => rfl) (by decide) rfl dL_law_36 ?_
    refine lv_bipush (v := 31) hx hb dL_law_37 (by decide) ?_
    refine lv_iand hx hb dL_law_39 ?_
    obtain ⟨j, hj, ej⟩ := and31 ((fun k => xs (8 * n + k)) 0)
    rw [ej]
    rcases (show j = 0 ∨ j = 1 ∨ j = 2 ∨ j = 3 ∨ j = 4 ∨ j = 5 ∨ j = 6 ∨ j = 7 ∨ j = 8 ∨ j = 9 ∨ j = 10 ∨ j = 11 ∨ j = 12 ∨ j = 13 ∨ j = 14 ∨ j = 15 ∨ j = 16 ∨ j = 17 ∨ j = 18 ∨ j = 19 ∨ j = 20 ∨ 20 < j by omega) with q | q | q | q | q | q | q | q | q | q | q | q | q | q | q | q | q | q | q | q | q | hj2
    · subst q; exact lv_tableIn (off := 100) (tgt := 140) hx hb dL_law_40 (by decide) (by decide) (by decide) (by decide) (lc_0 hC hE hS hI hl kk)
    · subst q; exact lv_tableIn (off := 168) (tgt := 208) hx hb dL_law_40 (by decide) (by decide) (by decide) (by decide) (lc_1 hC hE hS hI hl kk)
    · subst q; exact lv_tableIn (off := 231) (tgt := 271) hx hb dL_law_40 (by decide) (by decide) (by decide) (by decide) (lc_2 hC hE hS hI hl kk)
    · subst q; exact lv_tableIn (off := 287) (tgt := 327) hx hb dL_law_40 (by decide) (by decide) (by decide) (by decide) (lc_3 hC hE hS hI hl kk)
    · subst q; exact lv_tableIn (off := 355) (tgt := 395) hx hb dL_law_40 (by decide) (by decide) (by decide) (by decide) (lc_4 hC hE hS hI hl kk)
    · subst q; exact lv_tableIn (off := 411) (tgt := 451) hx hb dL_law_40 (by decide) (by decide) (by decide) (by decide) (lc_5 hC hE hS hI hl kk)
    · subst q; exact lv_tableIn (off := 559) (tgt := 599) hx hb dL_law_40 (by decide) (by decide) (by decide) (by decide) (lc_6 hC hE hS hI hl kk)
    · subst q; exact lv_tableIn (off := 631) (tgt := 671) hx hb dL_law_40 (by decide) (by decide) (by decide) (by decide) (lc_7 hC hE hS hI hl kk)
    · subst q; exact lv_tableIn (off := 711) (tgt := 751) hx hb dL_law_40 (by decide) (by decide) (by decide) (by decide) (lc_8 hC hE hS hI hl kk)
    · subst q; exact lv_tableIn (off := 791) (tgt := 831) hx hb dL_law_40 (by decide) (by decide) (by decide) (by decide) (lc_9 hC hE hS hI hl kk)
    · subst q; exact lv_tableIn (off := 847) (tgt := 887) hx hb dL_law_40 (by decide) (by decide) (by decide) (by decide) (lc_10 hC hE hS hI hl kk)
    · subst q; exact lv_tableIn (off := 860) (tgt := 900) hx hb dL_law_40 (by decide) (by decide) (by decide) (by decide) (lc_11 hC hE hS hI hl kk)
    · subst q; exact lv_tableIn (off := 928) (tgt := 968) hx hb dL_law_40 (by decide) (by decide) (by decide) (by decide) (lc_12 hC hE hS hI hl kk)
    · subst q; exact lv_tableIn (off := 996) (tgt := 1036) hx hb dL_law_40 (by decide) (by decide) (by decide) (by decide) (lc_13 hC hE hS hI hl kk)
    · subst q; exact lv_tableIn (off := 1064) (tgt := 1104) hx hb dL_law_40 (by decide) (by decide) (by decide) (by decide) (lc_14 hC hE hS hI hl kk)
    · subst q; exact lv_tableIn (off := 1131) (tgt := 1171) hx hb dL_law_40 (by decide) (by decide) (by decide) (by decide) (lc_15 hC hE hS hI hl kk)
    · subst q; exact lv_tableIn (off := 1198) (tgt := 1238) hx hb dL_law_40 (by decide) (by decide) (by decide) (by decide) (lc_16 hC hE hS hI hl kk)
    · subst q; exact lv_tableIn (off := 1266) (tgt := 1306) hx hb dL_law_40 (by decide) (by decide) (by decide) (by decide) (lc_17 hC hE hS hI hl kk)
    · subst q; exact lv_tableIn (off := 1333) (tgt := 1373) hx hb dL_law_40 (by decide) (by decide) (by decide) (by decide) (lc_18 hC hE hS hI hl kk)
    · subst q; exact lv_tableIn (off := 1412) (tgt := 1452) hx hb dL_law_40 (by decide) (by decide) (by decide) (by decide) (lc_19 hC hE hS hI hl kk)
    · subst q; exact lv_tableIn (off := 1491) (tgt := 1531) hx hb dL_law_40 (by decide) (by decide) (by decide) (by decide) (lc_20 hC hE hS hI hl kk)
    · refine lv_tableOut (tgt := 1599) hx hb dL_law_40 (Or.inr (by rw [nI_toInt (by omega)]; omega)) (by decide) ?_
      obtain ⟨ow, h0, h1, fx, ts, B, c9, f, hX, hMW, hJ, ho, hV, hBl, hcl, hsl⟩ := hI
      exact kk H locs cells slots ls hE hS ⟨ow, h0, h1, fx, ts, B, c9, f, hX, hMW, hJ, ho, hV, by omega, by omega, by omega⟩ hl
