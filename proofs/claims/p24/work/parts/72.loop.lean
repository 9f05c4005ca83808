/-! the law's loop -/
set_option maxRecDepth 100000 in
set_option maxHeartbeats 4000000 in
/-- THE LAW'S LOOP -/
theorem law_loop {p : Program} {e : Env} {s : State} {m : MethodId} {below : List Frame} {meth : Method} {c : Code} {b L : Nat} {xs : Nat → Int32} {E : ET} {x a2 a3 a4 a5 : Nat} (hL : L ≤ 260) (hx : p.tables.exec = Jvm.exec) (hb : c.code = cL_law) (hr : meth.sig.returnType = ret) (hml : c.maxLocals = 16) (hown : s.vm.findClass RL = some m.cls) (hts : ∀ w ∈ Tw, w.before #[Value.ref b] s = true) (hlk : meth.locks = false) (hBE : eB E = s.heap.size) (hXs : va_X b L xs s s.heap) (hbl : b < s.heap.size) (hg : eB E ≤ a2 ∧ eB E ≤ a3 ∧ eB E ≤ a4 ∧ eB E ≤ a5) : ∀ (r n tn : Nat) (H : Heap) (locs : List Loc) (cells slots : Nat) (ls : Array Slot), n + r = 44 → EV E s H → va_S (fr E) s.heap H locs → LI E x a2 a3 a4 a5 n tn cells slots (100 + 3000 * n) (1000 + 13000 * n) H → lv_has ls 16 [(0, .ref b), (1, .ref x), (2, .ref a2), (3, .ref a3), (4, .ref a4), (5, .ref a5), (6, .int (nI tn)), (7, .int (nI n))] → W p (eL E) e room_1 s m #[Value.ref b] below meth c H locs cells slots (lw_Z below #[Value.ref b] s) (F0 m 35 ls []) := by
  intro r
  induction r with
  | zero =>
    intro n tn H locs cells slots ls hn hE hS hI hl
    obtain ⟨ow, h0, h1, fx, ts, pf, rf, hf, gf, hA, hGI, hlen, hcl, hsl⟩ := hI
    have htn := hGI.1.1.tn
    have hzl := zc_le ts
    have hn : n = 44 := hn
    refine lv_iload hx hb dL_law_35 (lv_at hl 7 rfl) ?_
    refine lv_bipush (v := 44) hx hb dL_law_37 (by decide) ?_
    refine lv_icmp_ge (tgt := 599) hx hb dL_law_39 (by decide) (fun c1 => ?_) (fun c1 => ?_)
    rotate_left
    · exact absurd (nI_le (a := 44) (by omega) (by omega)) c1
    refine lv_iconst (v := 1) hx hb dL_law_599 (by decide) ?_
    refine va_forget (fun q hq => by have : eB E ≤ q.base := hS.2.2 q hq; omega) ?_
    refine W.widen (k := 1173600) (n := 5581029) (by omega) (by omega) ?_
    exact lw_ret hx hb hr hlk dL_law_600
  | succ r ih =>
    intro n tn H locs cells slots ls hn hE hS hI hl
    have hn44 : n < 44 := by omega
    have hC : LX p s m c b E a2 a3 a4 a5 n (100 + 3000 * n) (1000 + 13000 * n) := ⟨hx, hb, hml, hown, hts, hBE, hg, hn44, by omega, by omega⟩
    have hXH : va_X b L xs s H := va_X.kept hXs (hS.2.1 b hbl (by show ¬ eB E ≤ b; omega))
    have hcs : cells ≤ 1173600 ∧ slots ≤ 5581029 := by
      obtain ⟨ow, h0, h1, fx, ts, pf, rf, hf, gf, hA, hGI, hlen, hcl, hsl⟩ := id hI
      have htn := hGI.1.1.tn
      have hzl := zc_le ts
      exact ⟨by omega, by omega⟩
    obtain ⟨hcs1, hcs2⟩ := hcs
    refine lv_iload hx hb dL_law_35 (lv_at hl 7 rfl) ?_
    refine lv_bipush (v := 44) hx hb dL_law_37 (by decide) ?_
    refine lv_icmp_ge (tgt := 599) hx hb dL_law_39 (by decide) (fun c1 => ?_) (fun c1 => ?_)
    · exact absurd c1 (nI_ge (b := 44) (by omega) (by decide))
    refine lv_aload_n hx hb dL_law_42 rfl (lv_at hl 0 rfl) ?_
    refine lv_iconst (v := 2) hx hb dL_law_43 (by decide) ?_
    refine lv_iload hx hb dL_law_44 (lv_at hl 7 rfl) ?_
    refine lv_imul hx hb dL_law_46 ?_
    rw [show 2 * nI n = nI (2 * n) from nI_mul 2 n]
    refine lcl (k := 2 * n) hx hb hml hts hown hE hXH rfl (by omega) hL hl.1 (Nat.le_of_ble_eq_true rfl) hcs1 hcs2 dL_law_47 ?_
    generalize clS xs L (2 * n) = v
    refine lv_istore (lv' := [(8, .int v), (0, .ref b), (1, .ref x), (2, .ref a2), (3, .ref a3), (4, .ref a4), (5, .ref a5), (6, .int (nI tn)), (7, .int (nI n))]) hx hb dL_law_50 hl (by decide) rfl (fun ls hl => ?_)
    refine lv_aload_n hx hb dL_law_52 rfl (lv_at hl 1 rfl) ?_
    refine lv_iconst (v := 2) hx hb dL_law_53 (by decide) ?_
    refine lv_iload hx hb dL_law_54 (lv_at hl 8 rfl) ?_
    refine lv_imul hx hb dL_law_56 ?_
    refine lv_iconst (v := 1) hx hb dL_law_57 (by decide) ?_
    refine lv_iadd hx hb dL_law_58 ?_
    rw [show (2 : Int32) * nI n = nI (2 * n) from nI_mul 2 n]
    rw [show nI (2 * n) + 1 = nI (2 * n + 1) from nI_1 (2 * n)]
    refine lcl (k := 2 * n + 1) hx hb hml hts hown hE hXH rfl (by omega) hL hl.1 (Nat.le_of_ble_eq_true rfl) hcs1 hcs2 dL_law_59 ?_
    generalize clS xs L (2 * n + 1) = w
    refine lv_istore (lv' := [(9, .int w), (8, .int v), (0, .ref b), (1, .ref x), (2, .ref a2), (3, .ref a3), (4, .ref a4), (5, .ref a5), (6, .int (nI tn)), (7, .int (nI n))]) hx hb dL_law_62 hl (by decide) rfl (fun ls hl => ?_)
    refine lv_iload hx hb dL_law_64 (lv_at hl 1 rfl) ?_
    refine lv_bipush (v := 12) hx hb dL_law_66 (by decide) ?_
    refine lpS hx hb hml hts hown hE kwL_52 (c_low E v 12 12 H rfl (by decide) (by decide)) (by decide) rfl hl.1 rfl (Nat.le_of_ble_eq_true rfl) hcs1 hcs2 dL_law_68 ?_
    generalize lw v 12 = q
    refine lv_istore (lv' := [(10, .int (nI q)), (9, .int w), (8, .int v), (0, .ref b), (1, .ref x), (2, .ref a2), (3, .ref a3), (4, .ref a4), (5, .ref a5), (6, .int (nI tn)), (7, .int (nI n))]) hx hb dL_law_71 hl (by decide) rfl (fun ls hl => ?_)
    refine lv_iconst (v := 1) hx hb dL_law_73 (by decide) ?_
    refine lv_istore (lv' := [(11, .int 1), (10, .int (nI q)), (9, .int w), (8, .int v), (0, .ref b), (1, .ref x), (2, .ref a2), (3, .ref a3), (4, .ref a4), (5, .ref a5), (6, .int (nI tn)), (7, .int (nI n))]) hx hb dL_law_74 hl (by decide) rfl (fun ls hl => ?_)
    refine lv_iload hx hb dL_law_76 (lv_at hl 10 rfl) ?_
    refine lv_iconst (v := 2) hx hb dL_law_78 (by decide) ?_
    have kj : ∀ (H1 : Heap) (locs1 : List Loc) (cells1 slots1 tn1 : Nat) (ls1 : Array Slot), EV E s H1 → va_S (fr E) s.heap H1 locs1 → LI E x a2 a3 a4 a5 (n + 1) tn1 cells1 slots1 (100 + 3000 * n + 1500) (1000 + 13000 * n + 7000) H1 → lv_has ls1 16 [(0, .ref b), (1, .ref x), (2, .ref a2), (3, .ref a3), (4, .ref a4), (5, .ref a5), (6, .int (nI tn1)), (7, .int (nI n)), (9, .int w), (11, .int 1)] → W p (eL E) e room_1 s m #[Value.ref b] below meth c H1 locs1 cells1 slots1 (lw_Z below #[Value.ref b] s) (F0 m 555 ls1 []) := fun H1 locs1 cells1 slots1 tn1 ls1 hE1 hS1 hI1 hl1 => law_join hC hE1 hS1 hI1 hl1 (fun H2 locs2 cells2 slots2 tn2 ls2 hE2 hS2 hI2 hl2 => ih (n + 1) tn2 H2 locs2 cells2 slots2 ls2 (by omega) hE2 hS2 (by rw [show 100 + 3000 * (n + 1) = 100 + 3000 * n + 3000 by omega, show 1000 + 13000 * (n + 1) = 1000 + 13000 * n + 13000 by omega]; exact hI2) hl2)
    have htn10 : tn ≤ 10 := by
      obtain ⟨ow, h0, h1, fx, ts, pf, rf, hf, gf, hA, hGI, hlen, hcl, hsl⟩ := id hI
      have htn := hGI.1.1.tn
      omega
    refine lv_icmp_lt (tgt := 95) hx hb dL_law_79 (by decide) (fun c2 => ?_) (fun c2 => ?_)
    · have ht9 : tn < 10 := by rcases Nat.lt_or_ge tn 10 with q9 | q9; exact q9; exact absurd c2 (nI_nlt (b := 2) (by omega) (by omega))
      exact lc_trade hC hE hS hI ht9 (lv_sub hl [4, 5, 6, 7, 8, 9, 10, 11, 2, 0] rfl) kj
    · have htp : 0 < tn := by rcases Nat.eq_zero_or_pos tn with q9 | q9; exact absurd (nI_lt (a := tn) (b := 2) (by omega) (by decide)) c2; exact q9
      refine lv_iload hx hb dL_law_82 (lv_at hl 1 rfl) ?_
      refine lv_iconst (v := 3) hx hb dL_law_84 (by decide) ?_
      have k190 : ∀ (ls : Array Slot), lv_has ls 16 [(11, .int 1), (10, .int (nI q)), (9, .int w), (8, .int v), (0, .ref b), (1, .ref x), (2, .ref a2), (3, .ref a3), (4, .ref a4), (5, .ref a5), (6, .int (nI tn)), (7, .int (nI n))] → W p (eL E) e room_1 s m #[Value.ref b] below meth c H locs cells slots (lw_Z below #[Value.ref b] s) (F0 m 190 ls []) := by
        intro ls hl
        refine lv_iload hx hb dL_law_190 (lv_at hl 1 rfl) ?_
        refine lv_iconst (v := 3) hx hb dL_law_192 (by decide) ?_
        refine lv_icmp_ne (tgt := 253) hx hb dL_law_193 (by decide) (fun c5 => ?_) (fun c5 => ?_)
        · refine lv_iload hx hb dL_law_253 (lv_at hl 1 rfl) ?_
          refine lv_bipush (v := 6) hx hb dL_law_255 (by decide) ?_
          refine lv_icmp_ge (tgt := 290) hx hb dL_law_257 (by decide) (fun c6 => ?_) (fun c6 => ?_)
          · refine lv_iload hx hb dL_law_290 (lv_at hl 1 rfl) ?_
            refine lv_bipush (v := 6) hx hb dL_law_292 (by decide) ?_
            refine lv_icmp_ne (tgt := 387) hx hb dL_law_294 (by decide) (fun c7 => ?_) (fun c7 => ?_)
            · refine lv_iload hx hb dL_law_387 (lv_at hl 1 rfl) ?_
              refine lv_bipush (v := 9) hx hb dL_law_389 (by decide) ?_
              refine lv_icmp_ge (tgt := 506) hx hb dL_law_391 (by decide) (fun c9 => ?_) (fun c9 => ?_)
              · exact lc_prs hC hE hS hI (lv_sub hl [4, 5, 6, 7, 8, 9, 10, 11, 2, 0] rfl) kj
              · exact lc_brk hC hE hS hI htp (lv_sub hl [4, 5, 6, 7, 8, 9, 10, 11, 2, 0] rfl) kj
            · refine lv_iload hx hb dL_law_297 (lv_at hl 11 rfl) ?_
              refine lv_bipush (v := 30) hx hb dL_law_299 (by decide) ?_
              refine lv_icmp_ge (tgt := 387) hx hb dL_law_301 (by decide) (fun c8 => ?_) (fun c8 => ?_)
              · refine lv_iload hx hb dL_law_387 (lv_at hl 1 rfl) ?_
                refine lv_bipush (v := 9) hx hb dL_law_389 (by decide) ?_
                refine lv_icmp_ge (tgt := 506) hx hb dL_law_391 (by decide) (fun c9 => ?_) (fun c9 => ?_)
                · exact lc_prs hC hE hS hI (lv_sub hl [4, 5, 6, 7, 8, 9, 10, 11, 2, 0] rfl) kj
                · exact lc_brk hC hE hS hI htp (lv_sub hl [4, 5, 6, 7, 8, 9, 10, 11, 2, 0] rfl) kj
              · have hn30 : n < 30 := by rcases Nat.lt_or_ge n 30 with q9 | q9; exact q9; exact absurd (nI_le (a := 30) q9 (by omega)) c8
                exact lc_hol hC hE hS hI hn30 (lv_sub hl [4, 5, 6, 7, 8, 9, 10, 11, 2, 0] rfl) kj
          · exact lc_fix hC hE hS hI (lv_sub hl [4, 5, 6, 7, 8, 9, 10, 11, 2, 0] rfl) kj
        · exact lc_hand hC hE hS hI htp (lv_sub hl [4, 5, 6, 7, 8, 9, 10, 11, 2, 0] rfl) kj
      refine lv_icmp_ge (tgt := 190) hx hb dL_law_85 (by decide) (fun c3 => ?_) (fun c3 => ?_)
      · exact k190 ls hl
      · refine lv_iload hx hb dL_law_88 (lv_at hl 10 rfl) ?_
        refine lv_bipush (v := 10) hx hb dL_law_90 (by decide) ?_
        refine lv_icmp_ge (tgt := 190) hx hb dL_law_92 (by decide) (fun c4 => ?_) (fun c4 => ?_)
        · exact k190 ls hl
        · have ht9 : tn < 10 := by rcases Nat.lt_or_ge tn 10 with q9 | q9; exact q9; exact absurd (nI_le (a := 10) q9 (by omega)) c4
          exact lc_trade hC hE hS hI ht9 (lv_sub hl [4, 5, 6, 7, 8, 9, 10, 11, 2, 0] rfl) kj
