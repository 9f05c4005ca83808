theorem ii_m1 (x : Int32) : x + Int32.ofInt (-1) = x - 1 := by
  rw [Int32.sub_eq_add_neg]
  rfl
theorem lvL_skip1 {fx : Dy} (hI : dysIn fx) {r : Nat} (hr : r + 1 < 2 ^ 31) (h : dHas fx (nI (r + 1)) = false) (lt v : Int32) : lvL (nI (r + 1)) lt v fx = lvL (nI r) lt v fx :=
  lvL_skip hI (a := r) (b := r + 1) (by omega) hr (fun e h1 h2 h3 => by
    have : e = r + 1 := by omega
    rw [this]
    exact h) lt v
def inB (v lo hi : Int32) : Bool := decide (lo ≤ v) && decide (v ≤ hi)
theorem lvL_skip0 {fx : Dy} (hI : dysIn fx) (h : dHas fx (nI 0) = false) (lt v : Int32) : lvL (nI 0) lt v fx = lvL (-1) lt v fx := by
  rw [lvL_none fx lt v, lvL_none fx lt v]
  · intro y hy q
    obtain ⟨k, hk, e⟩ := hI y hy
    rw [e] at q
    exact absurd (Int32.le_trans (nI_pos' (n := k) (by omega)) q) (by decide)
  · intro y hy q
    obtain ⟨k, hk, e⟩ := hI y hy
    rw [e, nI_leI (by omega) (by decide)] at q
    have : k = 0 := by omega
    subst this
    rw [dHas_iff.mpr (List.mem_map.mpr ⟨y, hy, e⟩)] at h
    cases h
set_option maxRecDepth 100000 in
set_option maxHeartbeats 4000000 in
/-- in -/
theorem c_in (E : ET) (v lo hi : Int32) (H : Heap) : PCon E yX5_in cX5_in 3 (some FieldType.boolean) 1 [.int v, .int lo, .int hi] H (some (.int (if inB v lo hi then 1 else 0))) := by
  refine PCon.of (C := RX5) rfl (by decide +kernel) (Nat.le_of_ble_eq_true rfl) ?_
  intro p e s m below meth co ls hx hb hr hlk hml hown hts hE hH hl
  have hl : lv_has ls 3 [(0, .int v), (1, .int lo), (2, .int hi)] := hl
  refine lv_iload_n hx hb dX5_in_0 rfl (lv_at hl 0 rfl) ?_
  refine lv_iload_n hx hb dX5_in_1 rfl (lv_at hl 1 rfl) ?_
  refine lv_icmp_lt (tgt := 14) hx hb dX5_in_2 (by decide) (fun c1 => ?_) (fun c1 => ?_)
  · refine lv_iconst (v := 0) hx hb dX5_in_14 (by decide) ?_
    exact pZ hx hb hr hlk hH (by simp [inB, Int32.not_le.mpr c1]) dX5_in_15
  · refine lv_iload_n hx hb dX5_in_5 rfl (lv_at hl 0 rfl) ?_
    refine lv_iload_n hx hb dX5_in_6 rfl (lv_at hl 2 rfl) ?_
    refine lv_icmp_gt (tgt := 14) hx hb dX5_in_7 (by decide) (fun c2 => ?_) (fun c2 => ?_)
    · refine lv_iconst (v := 0) hx hb dX5_in_14 (by decide) ?_
      exact pZ hx hb hr hlk hH (by simp [inB, Int32.not_le.mpr c2]) dX5_in_15
    · refine lv_iconst (v := 1) hx hb dX5_in_10 (by decide) ?_
      refine lv_goto (tgt := 15) hx hb dX5_in_11 (by decide) ?_
      exact pZ hx hb hr hlk hH (by simp [inB, Int32.not_lt.mp c1, Int32.not_lt.mp c2]) dX5_in_15

set_option maxRecDepth 100000 in
set_option maxHeartbeats 4000000 in
/-- X5_isDay -/
theorem c_isDay (E : ET) (d : Int32) (H : Heap) : PCon E yX5_isDay cX5_isDay 1 (some FieldType.boolean) 2 [.int d] H (some (.int (if inB d 0 3000 then 1 else 0))) := by
  refine PCon.of (C := RX5) rfl (by decide +kernel) (Nat.le_of_ble_eq_true rfl) ?_
  intro p e s m below meth co ls hx hb hr hlk hml hown hts hE hH hl
  have hl : lv_has ls 1 [(0, .int d)] := hl
  refine lv_iload_n hx hb dX5_isDay_0 rfl (lv_at hl 0 rfl) ?_
  refine lv_iconst (v := 0) hx hb dX5_isDay_1 (by decide) ?_
  refine lv_sipush (v := 3000) hx hb dX5_isDay_2 (by decide) ?_
  refine pS hx hb hml hts hown hE kwX5_75 (c_in E d 0 3000 H) (Nat.le_of_ble_eq_true rfl) rfl hl.1 rfl (Nat.le_of_ble_eq_true rfl) (Nat.le_refl _) (Nat.le_refl _) dX5_isDay_5 ?_
  exact pZ hx hb hr hlk hH rfl dX5_isDay_8

set_option maxRecDepth 100000 in
set_option maxHeartbeats 4000000 in
/-- X5_isParty -/
theorem c_isParty (E : ET) (d : Int32) (H : Heap) : PCon E yX5_isParty cX5_isParty 1 (some FieldType.boolean) 2 [.int d] H (some (.int (if inB d 0 3 then 1 else 0))) := by
  refine PCon.of (C := RX5) rfl (by decide +kernel) (Nat.le_of_ble_eq_true rfl) ?_
  intro p e s m below meth co ls hx hb hr hlk hml hown hts hE hH hl
  have hl : lv_has ls 1 [(0, .int d)] := hl
  refine lv_iload_n hx hb dX5_isParty_0 rfl (lv_at hl 0 rfl) ?_
  refine lv_iconst (v := 0) hx hb dX5_isParty_1 (by decide) ?_
  refine lv_iconst (v := 3) hx hb dX5_isParty_2 (by decide) ?_
  refine pS hx hb hml hts hown hE kwX5_75 (c_in E d 0 3 H) (Nat.le_of_ble_eq_true rfl) rfl hl.1 rfl (Nat.le_of_ble_eq_true rfl) (Nat.le_refl _) (Nat.le_refl _) dX5_isParty_3 ?_
  exact pZ hx hb hr hlk hH rfl dX5_isParty_6

set_option maxRecDepth 100000 in
set_option maxHeartbeats 4000000 in
/-- isTrade -/
theorem c_isTrade (E : ET) (x : Nat) (sc : Nat → Int32) (ad : Nat → Nat) (ar : Nat → Nat → Int32) (t : Int32) (H : Heap) (hX : MX E x sc ad ar H)  : PCon E yX5_isTrade cX5_isTrade 2 (some FieldType.boolean) 2 [.ref x, .int t] H (some (.int (if inB t 0 (sc 6 - 1) then 1 else 0))) := by
  refine PCon.of (C := RX5) rfl (by decide +kernel) (Nat.le_of_ble_eq_true rfl) ?_
  intro p e s m below meth co ls hx hb hr hlk hml hown hts hE hH hl
  have hl : lv_has ls 2 [(0, .ref x), (1, .int t)] := hl
  refine lv_iload_n hx hb dX5_isTrade_0 rfl (lv_at hl 1 rfl) ?_
  refine lv_iconst (v := 0) hx hb dX5_isTrade_1 (by decide) ?_
  refine lv_aload_n hx hb dX5_isTrade_2 rfl (lv_at hl 0 rfl) ?_
  refine gf hx hb hts hown hE lkX5_79 hX.1 rfl dX5_isTrade_3 ?_
  refine lv_iconst (v := 1) hx hb dX5_isTrade_6 (by decide) ?_
  refine lv_isub hx hb dX5_isTrade_7 ?_
  refine pS hx hb hml hts hown hE kwX5_75 (c_in E t 0 (sc 6 - 1) H) (Nat.le_of_ble_eq_true rfl) rfl hl.1 rfl (Nat.le_of_ble_eq_true rfl) (Nat.le_refl _) (Nat.le_refl _) dX5_isTrade_8 ?_
  exact pZ hx hb hr hlk hH rfl dX5_isTrade_11

set_option maxRecDepth 100000 in
set_option maxHeartbeats 4000000 in
/-- opens -/
theorem c_opens (E : ET) (x : Nat) (sc : Nat → Int32) (ad : Nat → Nat) (ar : Nat → Nat → Int32) (h0 h1 fx : Dy) (ts : List TR) (B : BK) (d : Nat) (H : Heap) (hX : MX E x sc ad ar H) (hI : MI sc ar h0 h1 fx ts B) (hV : SV h0 h1 fx ts) (hd : d < 2 ^ 31) : PCon E yX5_opens cX5_opens 2 (some FieldType.boolean) 1 [.ref x, .int (nI d)] H (some (.int (if opn h0 h1 d then 1 else 0))) := by
  refine PCon.of (C := RX5) rfl (by decide +kernel) (Nat.le_of_ble_eq_true rfl) ?_
  intro p e s m below meth co ls hx hb hr hlk hml hown hts hE hH hl
  have hl : lv_has ls 2 [(0, .ref x), (1, .int (nI d))] := hl
  have hA1 : ZA E 6002 (ar 1) (ad 1) H := hX.2 1 rfl
  have hr7 : nI d - nI d / 7 * 7 = nI (d % 7) := pk_rem hd (by decide) (by decide)
  refine lv_iload_n hx hb dX5_opens_0 rfl (lv_at hl 1 rfl) ?_
  refine lv_bipush (v := 7) hx hb dX5_opens_1 (by decide) ?_
  refine lv_irem hx hb dX5_opens_3 (by decide) ?_
  rw [hr7]
  refine lv_iconst (v := 5) hx hb dX5_opens_4 (by decide) ?_
  refine lv_icmp_ge (tgt := 41) hx hb dX5_opens_5 (by decide) (fun c => ?_) (fun c => ?_)
  · refine lv_iconst (v := 0) hx hb dX5_opens_41 (by decide) ?_
    exact pZ hx hb hr hlk hH (by rw [opn, decide_eq_false (fun q => absurd ((nI_leI (a := 5) (b := d % 7) (by decide) (by omega)).mp c) (by omega))]; rfl) dX5_opens_42
  · have c5 : d % 7 < 5 := by
      rcases Nat.lt_or_ge (d % 7) 5 with q | q
      · exact q
      · exact absurd ((nI_leI (a := 5) (b := d % 7) (by decide) (by omega)).mpr q) c
    refine lv_iload_n hx hb dX5_opens_8 rfl (lv_at hl 1 rfl) ?_
    refine lv_sipush (v := 3001) hx hb dX5_opens_9 (by decide) ?_
    refine lv_icmp_ge (tgt := 37) hx hb dX5_opens_12 (by decide) (fun c2 => ?_) (fun c2 => ?_)
    · have c3 : 3000 < d := by have := (nI_leI (a := 3001) (b := d) (by decide) hd).mp c2; omega
      refine lv_iconst (v := 1) hx hb dX5_opens_37 (by decide) ?_
      refine lv_goto (tgt := 42) hx hb dX5_opens_38 (by decide) ?_
      exact pZ hx hb hr hlk hH (by simp [opn, c5, dHas_out hV.2.2.1 c3 hd, dHas_out hV.2.2.2.1 c3 hd]) dX5_opens_42
    · have c3 : d ≤ 3000 := by
        rcases Nat.lt_or_ge 3000 d with q | q
        · exact absurd ((nI_leI (a := 3001) (b := d) (by decide) hd).mpr q) c2
        · exact q
      have hh := hI.1 d c3
      refine lv_aload_n hx hb dX5_opens_15 rfl (lv_at hl 0 rfl) ?_
      refine gf hx hb hts hown hE lkX5_7 hX.1 rfl dX5_opens_16 ?_
      refine lv_iload_n hx hb dX5_opens_19 rfl (lv_at hl 1 rfl) ?_
      refine aZ hx hb hE hA1 rfl (by omega) (by omega) hh.1 dX5_opens_20 ?_
      cases x0 : dHas h0 (nI d) with
      | true =>
        refine lv_if_ne (tgt := 41) hx hb dX5_opens_21 (by decide) (fun c4 => ?_) (fun c4 => ?_)
        rotate_left
        · exact absurd c4 (by decide)
        refine lv_iconst (v := 0) hx hb dX5_opens_41 (by decide) ?_
        exact pZ hx hb hr hlk hH (by simp [opn, x0]) dX5_opens_42
      | false =>
        refine lv_if_ne (tgt := 41) hx hb dX5_opens_21 (by decide) (fun c4 => ?_) (fun c4 => ?_)
        · exact absurd (by decide) c4
        refine lv_aload_n hx hb dX5_opens_24 rfl (lv_at hl 0 rfl) ?_
        refine gf hx hb hts hown hE lkX5_7 hX.1 rfl dX5_opens_25 ?_
        refine lv_sipush (v := 3001) hx hb dX5_opens_28 (by decide) ?_
        refine lv_iload_n hx hb dX5_opens_31 rfl (lv_at hl 1 rfl) ?_
        refine lv_iadd hx hb dX5_opens_32 ?_
        rw [show (3001 : Int32) + nI d = nI (3001 + d) from nI_add 3001 d]
        refine aZ hx hb hE hA1 rfl (by omega) (by omega) hh.2 dX5_opens_33 ?_
        cases x1 : dHas h1 (nI d) with
        | true =>
          refine lv_if_ne (tgt := 41) hx hb dX5_opens_34 (by decide) (fun c6 => ?_) (fun c6 => ?_)
          rotate_left
          · exact absurd c6 (by decide)
          refine lv_iconst (v := 0) hx hb dX5_opens_41 (by decide) ?_
          exact pZ hx hb hr hlk hH (by simp [opn, x1]) dX5_opens_42
        | false =>
          refine lv_if_ne (tgt := 41) hx hb dX5_opens_34 (by decide) (fun c6 => ?_) (fun c6 => ?_)
          · exact absurd (by decide) c6
          refine lv_iconst (v := 1) hx hb dX5_opens_37 (by decide) ?_
          refine lv_goto (tgt := 42) hx hb dX5_opens_38 (by decide) ?_
          exact pZ hx hb hr hlk hH (by simp [opn, x0, x1, c5]) dX5_opens_42

set_option maxRecDepth 100000 in
set_option maxHeartbeats 4000000 in
/-- rolled -/
theorem c_rolled (E : ET) (x : Nat) (sc : Nat → Int32) (ad : Nat → Nat) (ar : Nat → Nat → Int32) (h0 h1 fx : Dy) (ts : List TR) (B : BK) (d : Nat) (H : Heap) (hX : MX E x sc ad ar H) (hI : MI sc ar h0 h1 fx ts B) (hV : SV h0 h1 fx ts) (hd : d < 2 ^ 29) : PCon E yX5_rolled cX5_rolled 3 (some FieldType.int) 2 [.ref x, .int (nI d)] H (some (.int (nI (rol h0 h1 d)))) := by
  refine PCon.of (C := RX5) rfl (by decide +kernel) (Nat.le_of_ble_eq_true rfl) ?_
  intro p e s m below meth co ls hx hb hr hlk hml hown hts hE hH hl
  have hl : lv_has ls 3 [(0, .ref x), (1, .int (nI d))] := hl
  have hge := rol_ge h0 h1 d
  have hle := rol_le h0 h1 d
  refine lv_iload_n hx hb dX5_rolled_0 rfl (lv_at hl 1 rfl) ?_
  refine lv_istore_n (lv' := [(2, .int (nI d)), (0, .ref x), (1, .int (nI d))]) hx hb dX5_rolled_1 rfl hl (by decide) rfl (fun ls hl => ?_)
  have loop : ∀ (n r : Nat) (ls : Array Slot), r + n = rol h0 h1 d → rol h0 h1 r = rol h0 h1 d → lv_has ls 3 [(2, .int (nI r)), (0, .ref x), (1, .int (nI d))] → W p (eL E) e (rmk 2 0 0) s m ([.ref x, .int (nI d)]).toArray below meth co H [] 0 0 (MQ below (PQ (some (.int (nI (rol h0 h1 d))))) ([.ref x, .int (nI d)]).toArray s 0 0 (fun _ => False)) (F0 m 2 ls []) := by
    intro n
    induction n with
    | zero =>
      intro r ls hi he hl
      have hi2 : r = rol h0 h1 d := by omega
      have ho : opn h0 h1 r = true := by rw [hi2]; exact opn_rol hV.1 hV.2.1 (by omega)
      refine lv_aload_n hx hb dX5_rolled_2 rfl (lv_at hl 1 rfl) ?_
      refine lv_iload_n hx hb dX5_rolled_3 rfl (lv_at hl 0 rfl) ?_
      refine pV hx hb hml hts hown hE kwX5_86 (c_opens E x sc ad ar h0 h1 fx ts B r H hX hI hV (by omega)) hX.1 rfl (Nat.le_of_ble_eq_true rfl) rfl hl.1 rfl (Nat.le_of_ble_eq_true rfl) (Nat.le_refl _) (Nat.le_refl _) dX5_rolled_4 ?_
      rw [ho]
      refine lv_if_ne (tgt := 16) hx hb dX5_rolled_7 (by decide) (fun c => ?_) (fun c => ?_)
      rotate_left
      · exact absurd c (by decide)
      refine lv_iload_n hx hb dX5_rolled_16 rfl (lv_at hl 0 rfl) ?_
      exact pI hx hb hr hlk hH (by rw [hi2]) dX5_rolled_17
    | succ n ih =>
      intro r ls hi he hl
      refine lv_aload_n hx hb dX5_rolled_2 rfl (lv_at hl 1 rfl) ?_
      refine lv_iload_n hx hb dX5_rolled_3 rfl (lv_at hl 0 rfl) ?_
      refine pV hx hb hml hts hown hE kwX5_86 (c_opens E x sc ad ar h0 h1 fx ts B r H hX hI hV (by omega)) hX.1 rfl (Nat.le_of_ble_eq_true rfl) rfl hl.1 rfl (Nat.le_of_ble_eq_true rfl) (Nat.le_refl _) (Nat.le_refl _) dX5_rolled_4 ?_
      cases ho : opn h0 h1 r with
      | true =>
        have := rol_open ho
        omega
      | false =>
        refine lv_if_ne (tgt := 16) hx hb dX5_rolled_7 (by decide) (fun c => ?_) (fun c => ?_)
        · exact absurd (by decide) c
        refine lv_iinc (v := nI (r + 1)) (lv' := [(2, .int (nI (r + 1))), (0, .ref x), (1, .int (nI d))]) hx hb dX5_rolled_10 hl (k := 0) rfl (nI_1 r) (by decide) rfl (fun ls hl => ?_)
        refine lv_goto (tgt := 2) hx hb dX5_rolled_13 (by decide) ?_
        exact ih (r + 1) ls (by omega) ((rol_next hV.1 hV.2.1 (by omega) ho).trans he) (lv_sub hl [0, 1, 2] rfl)
  exact loop (rol h0 h1 d - d) d ls (by omega) rfl (lv_sub hl [0, 1, 2] rfl)

set_option maxRecDepth 100000 in
set_option maxHeartbeats 4000000 in
/-- rate -/
theorem c_mrate (E : ET) (x : Nat) (sc : Nat → Int32) (ad : Nat → Nat) (ar : Nat → Nat → Int32) (h0 h1 fx : Dy) (ts : List TR) (B : BK) (d : Nat) (H : Heap) (hX : MX E x sc ad ar H) (hI : MI sc ar h0 h1 fx ts B) (hV : SV h0 h1 fx ts) (hd : d < 2 ^ 31) : PCon E yX5_rate cX5_rate 3 (some FieldType.int) 1 [.ref x, .int (nI d)] H (some (.int (dLast fx (nI d) 0))) := by
  refine PCon.of (C := RX5) rfl (by decide +kernel) (Nat.le_of_ble_eq_true rfl) ?_
  intro p e s m below meth co ls hx hb hr hlk hml hown hts hE hH hl
  have hl : lv_has ls 3 [(0, .ref x), (1, .int (nI d))] := hl
  have hA3 : ZA E 3001 (ar 3) (ad 3) H := hX.2 3 rfl
  have hA4 : IA E 3001 (ar 4) (ad 4) H := hX.2 4 rfl
  have hF := hI.2.2.1
  have hdx := hV.2.2.2.2.1
  have hnd := hV.2.2.2.2.2.2.1
  refine lv_iload_n hx hb dX5_rate_0 rfl (lv_at hl 1 rfl) ?_
  refine lv_sipush (v := 3001) hx hb dX5_rate_1 (by decide) ?_
  refine lv_icmp_ge (tgt := 11) hx hb dX5_rate_4 (by decide) (fun c => ?_) (fun c => ?_)
  · have c3 : 3000 < d := by have := (nI_leI (a := 3001) (b := d) (by decide) hd).mp c; omega
    refine lv_sipush (v := 3000) hx hb dX5_rate_11 (by decide) ?_
    refine lv_istore_n (lv' := [(2, .int 3000), (0, .ref x), (1, .int (nI d))]) hx hb dX5_rate_14 rfl hl (by decide) rfl (fun ls hl => ?_)
    have loop : ∀ (r : Nat) (ls : Array Slot), r ≤ 3001 → (∀ lt v, lvL (nI d) lt v fx = lvL (nI r - 1) lt v fx) → lv_has ls 3 [(2, .int (nI r - 1)), (0, .ref x), (1, .int (nI d))] → W p (eL E) e (rmk 1 0 0) s m ([.ref x, .int (nI d)]).toArray below meth co H [] 0 0 (MQ below (PQ (some (.int (dLast fx (nI d) 0)))) ([.ref x, .int (nI d)]).toArray s 0 0 (fun _ => False)) (F0 m 15 ls []) := by
      intro r
      induction r with
      | zero =>
        intro ls hr9 he hl
        have e0 : dLast fx (nI d) 0 = 0 := by
          unfold dLast
          rw [he]
          refine lvL_none fx _ _ (fun y hy => ?_)
          obtain ⟨k, hk, e⟩ := hdx y hy
          rw [e]
          exact Int32.not_le.mpr (Int32.lt_of_lt_of_le (show nI 0 - 1 < 0 by decide) (nI_pos' (by omega)))
        refine lv_iload_n hx hb dX5_rate_15 rfl (lv_at hl 0 rfl) ?_
        refine lv_if_lt (tgt := 34) hx hb dX5_rate_16 (by decide) (fun c8 => ?_) (fun c8 => ?_)
        rotate_left
        · exact absurd (by decide) c8
        refine lv_iload_n hx hb dX5_rate_34 rfl (lv_at hl 0 rfl) ?_
        refine lv_if_ge (tgt := 42) hx hb dX5_rate_35 (by decide) (fun c9 => ?_) (fun c9 => ?_)
        · exact absurd c9 (by decide)
        refine lv_iconst (v := 0) hx hb dX5_rate_38 (by decide) ?_
        refine lv_goto (tgt := 48) hx hb dX5_rate_39 (by decide) ?_
        exact pI hx hb hr hlk hH (by rw [e0]) dX5_rate_48
      | succ r ih =>
        intro ls hr9 he hl
        rw [nI_pred] at he hl
        refine lv_iload_n hx hb dX5_rate_15 rfl (lv_at hl 0 rfl) ?_
        refine lv_if_lt (tgt := 34) hx hb dX5_rate_16 (by decide) (fun c8 => ?_) (fun c8 => ?_)
        · exact absurd c8 (nI_pos (by omega))
        refine lv_aload_n hx hb dX5_rate_19 rfl (lv_at hl 1 rfl) ?_
        refine gf hx hb hts hown hE lkX5_17 hX.1 rfl dX5_rate_20 ?_
        refine lv_iload_n hx hb dX5_rate_23 rfl (lv_at hl 0 rfl) ?_
        refine aZ hx hb hE hA3 rfl (by omega) (by omega) ((hF r (by omega)).1) dX5_rate_24 ?_
        cases hh : dHas fx (nI r) with
        | true =>
          obtain ⟨y, hy, e⟩ := List.mem_map.mp (dHas_iff.mp hh)
          have hy2 : (nI r, y.2) ∈ fx := by rw [← e]; exact hy
          have e0 : dLast fx (nI d) 0 = y.2 := by unfold dLast; rw [he]; exact lvL_hit fx (-1) 0 (Int32.le_of_lt (Int32.lt_of_lt_of_le (show (-1 : Int32) < 0 by decide) (nI_pos' (by omega)))) hy2 hnd
          refine lv_if_ne (tgt := 34) hx hb dX5_rate_25 (by decide) (fun c9 => ?_) (fun c9 => ?_)
          rotate_left
          · exact absurd c9 (by decide)
          refine lv_iload_n hx hb dX5_rate_34 rfl (lv_at hl 0 rfl) ?_
          refine lv_if_ge (tgt := 42) hx hb dX5_rate_35 (by decide) (fun c10 => ?_) (fun c10 => ?_)
          rotate_left
          · exact absurd (nI_pos' (by omega)) c10
          refine lv_aload_n hx hb dX5_rate_42 rfl (lv_at hl 1 rfl) ?_
          refine gf hx hb hts hown hE lkX5_20 hX.1 rfl dX5_rate_43 ?_
          refine lv_iload_n hx hb dX5_rate_46 rfl (lv_at hl 0 rfl) ?_
          refine aI hx hb hE hA4 rfl (by omega) (by omega) ((hF r (by omega)).2 _ hy2) dX5_rate_47 ?_
          exact pI hx hb hr hlk hH (by rw [e0]) dX5_rate_48
        | false =>
          refine lv_if_ne (tgt := 34) hx hb dX5_rate_25 (by decide) (fun c9 => ?_) (fun c9 => ?_)
          · exact absurd (by decide) c9
          refine lv_iinc (v := nI r - 1) (lv' := [(2, .int (nI r - 1)), (0, .ref x), (1, .int (nI d))]) hx hb dX5_rate_28 hl (k := 0) rfl (ii_m1 _) (by decide) rfl (fun ls hl => ?_)
          refine lv_goto (tgt := 15) hx hb dX5_rate_31 (by decide) ?_
          refine ih ls (by omega) (fun lt v => (he lt v).trans ?_) (lv_sub hl [0, 1, 2] rfl)
          cases r with
          | zero =>
            rw [show nI 0 - 1 = -1 by decide]
            exact lvL_skip0 hdx hh lt v
          | succ r =>
            rw [nI_pred]
            exact lvL_skip1 hdx (by omega) hh lt v
    exact loop (3000 + 1) ls (by omega) (by rw [nI_pred]; exact lvL_skip hdx (a := 3000) (b := d) (by omega) hd (fun e h1 h2 h3 => absurd h3 (by omega))) (by rw [nI_pred]; exact (lv_sub hl [0, 1, 2] rfl))
  · have c3 : d ≤ 3000 := by
      rcases Nat.lt_or_ge 3000 d with q | q
      · exact absurd ((nI_leI (a := 3001) (b := d) (by decide) hd).mpr q) c
      · exact q
    refine lv_iload_n hx hb dX5_rate_7 rfl (lv_at hl 1 rfl) ?_
    refine lv_goto (tgt := 14) hx hb dX5_rate_8 (by decide) ?_
    refine lv_istore_n (lv' := [(2, .int (nI d)), (0, .ref x), (1, .int (nI d))]) hx hb dX5_rate_14 rfl hl (by decide) rfl (fun ls hl => ?_)
    have loop : ∀ (r : Nat) (ls : Array Slot), r ≤ 3001 → (∀ lt v, lvL (nI d) lt v fx = lvL (nI r - 1) lt v fx) → lv_has ls 3 [(2, .int (nI r - 1)), (0, .ref x), (1, .int (nI d))] → W p (eL E) e (rmk 1 0 0) s m ([.ref x, .int (nI d)]).toArray below meth co H [] 0 0 (MQ below (PQ (some (.int (dLast fx (nI d) 0)))) ([.ref x, .int (nI d)]).toArray s 0 0 (fun _ => False)) (F0 m 15 ls []) := by
      intro r
      induction r with
      | zero =>
        intro ls hr9 he hl
        have e0 : dLast fx (nI d) 0 = 0 := by
          unfold dLast
          rw [he]
          refine lvL_none fx _ _ (fun y hy => ?_)
          obtain ⟨k, hk, e⟩ := hdx y hy
          rw [e]
          exact Int32.not_le.mpr (Int32.lt_of_lt_of_le (show nI 0 - 1 < 0 by decide) (nI_pos' (by omega)))
        refine lv_iload_n hx hb dX5_rate_15 rfl (lv_at hl 0 rfl) ?_
        refine lv_if_lt (tgt := 34) hx hb dX5_rate_16 (by decide) (fun c8 => ?_) (fun c8 => ?_)
        rotate_left
        · exact absurd (by decide) c8
        refine lv_iload_n hx hb dX5_rate_34 rfl (lv_at hl 0 rfl) ?_
        refine lv_if_ge (tgt := 42) hx hb dX5_rate_35 (by decide) (fun c9 => ?_) (fun c9 => ?_)
        · exact absurd c9 (by decide)
        refine lv_iconst (v := 0) hx hb dX5_rate_38 (by decide) ?_
        refine lv_goto (tgt := 48) hx hb dX5_rate_39 (by decide) ?_
        exact pI hx hb hr hlk hH (by rw [e0]) dX5_rate_48
      | succ r ih =>
        intro ls hr9 he hl
        rw [nI_pred] at he hl
        refine lv_iload_n hx hb dX5_rate_15 rfl (lv_at hl 0 rfl) ?_
        refine lv_if_lt (tgt := 34) hx hb dX5_rate_16 (by decide) (fun c8 => ?_) (fun c8 => ?_)
        · exact absurd c8 (nI_pos (by omega))
        refine lv_aload_n hx hb dX5_rate_19 rfl (lv_at hl 1 rfl) ?_
        refine gf hx hb hts hown hE lkX5_17 hX.1 rfl dX5_rate_20 ?_
        refine lv_iload_n hx hb dX5_rate_23 rfl (lv_at hl 0 rfl) ?_
        refine aZ hx hb hE hA3 rfl (by omega) (by omega) ((hF r (by omega)).1) dX5_rate_24 ?_
        cases hh : dHas fx (nI r) with
        | true =>
          obtain ⟨y, hy, e⟩ := List.mem_map.mp (dHas_iff.mp hh)
          have hy2 : (nI r, y.2) ∈ fx := by rw [← e]; exact hy
          have e0 : dLast fx (nI d) 0 = y.2 := by unfold dLast; rw [he]; exact lvL_hit fx (-1) 0 (Int32.le_of_lt (Int32.lt_of_lt_of_le (show (-1 : Int32) < 0 by decide) (nI_pos' (by omega)))) hy2 hnd
          refine lv_if_ne (tgt := 34) hx hb dX5_rate_25 (by decide) (fun c9 => ?_) (fun c9 => ?_)
          rotate_left
          · exact absurd c9 (by decide)
          refine lv_iload_n hx hb dX5_rate_34 rfl (lv_at hl 0 rfl) ?_
          refine lv_if_ge (tgt := 42) hx hb dX5_rate_35 (by decide) (fun c10 => ?_) (fun c10 => ?_)
          rotate_left
          · exact absurd (nI_pos' (by omega)) c10
          refine lv_aload_n hx hb dX5_rate_42 rfl (lv_at hl 1 rfl) ?_
          refine gf hx hb hts hown hE lkX5_20 hX.1 rfl dX5_rate_43 ?_
          refine lv_iload_n hx hb dX5_rate_46 rfl (lv_at hl 0 rfl) ?_
          refine aI hx hb hE hA4 rfl (by omega) (by omega) ((hF r (by omega)).2 _ hy2) dX5_rate_47 ?_
          exact pI hx hb hr hlk hH (by rw [e0]) dX5_rate_48
        | false =>
          refine lv_if_ne (tgt := 34) hx hb dX5_rate_25 (by decide) (fun c9 => ?_) (fun c9 => ?_)
          · exact absurd (by decide) c9
          refine lv_iinc (v := nI r - 1) (lv' := [(2, .int (nI r - 1)), (0, .ref x), (1, .int (nI d))]) hx hb dX5_rate_28 hl (k := 0) rfl (ii_m1 _) (by decide) rfl (fun ls hl => ?_)
          refine lv_goto (tgt := 15) hx hb dX5_rate_31 (by decide) ?_
          refine ih ls (by omega) (fun lt v => (he lt v).trans ?_) (lv_sub hl [0, 1, 2] rfl)
          cases r with
          | zero =>
            rw [show nI 0 - 1 = -1 by decide]
            exact lvL_skip0 hdx hh lt v
          | succ r =>
            rw [nI_pred]
            exact lvL_skip1 hdx (by omega) hh lt v
    exact loop (d + 1) ls (by omega) (by rw [nI_pred]; exact fun lt v => rfl) (by rw [nI_pred]; exact (lv_sub hl [0, 1, 2] rfl))
