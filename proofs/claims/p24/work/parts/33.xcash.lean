/-- what a trade pays a party -/
def csh1 (h0 h1 fx : Dy) (pa d1 d2 : Int32) (tr : TR) : Int64 := cshS tr.1 tr.2.1 tr.2.2 (bfC h0 h1 tr.1) fx pa d1 d2 (np tr)
theorem sumK_csh (h0 h1 fx : Dy) (pa d1 d2 : Int32) (tr : TR) (v : Int64) (k : Nat) : sumK h0 h1 fx pa d1 d2 tr v k = v + cshS tr.1 tr.2.1 tr.2.2 (bfC h0 h1 tr.1) fx pa d1 d2 k := by
  induction k with
  | zero => exact (Int64.add_zero v).symm
  | succ k ih =>
    unfold sumK cshS
    rw [ih]
    by_cases c : d1 ≤ bfC h0 h1 tr.1 (k + 1) ∧ bfC h0 h1 tr.1 (k + 1) ≤ d2 ∧ hldS tr.1 tr.2.2 (bfC h0 h1 tr.1 (k + 1)) = pa
    · rw [if_pos c, if_pos ⟨by simp [inB, c.1, c.2.1], c.2.2⟩, Int64.add_assoc]
    · rw [if_neg c, if_neg (fun q => c ?_), Int64.add_zero]
      have q1 := q.1
      unfold inB at q1
      rw [Bool.and_eq_true, decide_eq_true_eq, decide_eq_true_eq] at q1
      exact ⟨q1.1, q1.2, q.2⟩
theorem sumS_cons (h0 h1 fx : Dy) (pa d1 d2 : Int32) (tr : TR) (v : Int64) (us : List TR) : sumS h0 h1 fx pa d1 d2 v (tr :: us) = sumS h0 h1 fx pa d1 d2 (v + csh1 h0 h1 fx pa d1 d2 tr) us := by
  show sumS h0 h1 fx pa d1 d2 (sumK h0 h1 fx pa d1 d2 tr v (np tr)) us = _
  rw [sumK_csh]
  rfl
theorem sumS_add (h0 h1 fx : Dy) (pa d1 d2 : Int32) (us : List TR) : ∀ v : Int64, sumS h0 h1 fx pa d1 d2 v us = v + sumS h0 h1 fx pa d1 d2 0 us := by
  induction us with
  | nil => intro v; exact (Int64.add_zero v).symm
  | cons tr us ih =>
    intro v
    rw [sumS_cons, sumS_cons, ih, ih (0 + csh1 h0 h1 fx pa d1 d2 tr), Int64.zero_add, Int64.add_assoc]
theorem sumS_c0 (h0 h1 fx : Dy) (pa d1 d2 : Int32) (tr : TR) (us : List TR) : sumS h0 h1 fx pa d1 d2 0 (tr :: us) = csh1 h0 h1 fx pa d1 d2 tr + sumS h0 h1 fx pa d1 d2 0 us := by
  rw [sumS_cons, sumS_add, Int64.zero_add]
theorem i64_sw (a b c d : Int64) : a + b + (c + d) = a + c + (b + d) := by
  rw [Int64.add_assoc, Int64.add_assoc, ← Int64.add_assoc b, ← Int64.add_assoc c, Int64.add_comm b c]
theorem csh_split (T : Nat → Int32) (bs hs : Dy) (bf : Nat → Int32) (fx : Dy) (pa : Int32) {a b : Nat} (hab : a ≤ b + 1) (hb : b + 1 < 2 ^ 31) (k : Nat) : cshS T bs hs bf fx pa (nI a) (nI (b + 1)) k = cshS T bs hs bf fx pa (nI a) (nI b) k + cshS T bs hs bf fx pa (nI (b + 1)) (nI (b + 1)) k := by
  induction k with
  | zero => exact (Int64.add_zero 0).symm
  | succ k ih =>
    unfold cshS
    rw [ih]
    have e1 := nI_toInt (n := a) (by omega)
    have e2 := nI_toInt (n := b) (by omega)
    have e3 := nI_toInt (n := b + 1) hb
    by_cases ch : hldS T hs (bf (k + 1)) = pa
    · simp only [ch, and_true, Int32.le_iff_toInt_le, e1, e2, e3]
      by_cases c1 : (a : Int) ≤ (bf (k + 1)).toInt ∧ (bf (k + 1)).toInt ≤ (b : Int)
      · rw [if_pos (by omega), if_pos c1, if_neg (by omega), Int64.add_assoc, Int64.add_assoc, Int64.add_comm (cshS _ _ _ _ _ _ _ _ k) (flwS _ _ _ _ _)]
      · by_cases c2 : (bf (k + 1)).toInt = (b : Int) + 1
        · rw [if_pos (by omega), if_neg c1, if_pos (by omega), Int64.add_assoc]
        · rw [if_neg (by omega), if_neg c1, if_neg (by omega)]
    · simp only [ch, and_false, if_false]
theorem sumS_split (h0 h1 fx : Dy) (pa : Int32) {a b : Nat} (hab : a ≤ b + 1) (hb : b + 1 < 2 ^ 31) (us : List TR) : sumS h0 h1 fx pa (nI a) (nI (b + 1)) 0 us = sumS h0 h1 fx pa (nI a) (nI b) 0 us + sumS h0 h1 fx pa (nI (b + 1)) (nI (b + 1)) 0 us := by
  induction us with
  | nil => exact (Int64.add_zero 0).symm
  | cons tr us ih =>
    rw [sumS_c0, sumS_c0, sumS_c0, ih]
    have e : csh1 h0 h1 fx pa (nI a) (nI (b + 1)) tr = csh1 h0 h1 fx pa (nI a) (nI b) tr + csh1 h0 h1 fx pa (nI (b + 1)) (nI (b + 1)) tr := csh_split _ _ _ _ _ _ hab hb _
    rw [e]
    exact i64_sw _ _ _ _
/-- the sums of i days from a on, one by one -/
def dayS (h0 h1 fx : Dy) (pa : Int32) (ts : List TR) (a : Nat) : Nat → Int64
  | 0 => 0
  | i + 1 => dayS h0 h1 fx pa ts a i + sumS h0 h1 fx pa (nI (a + i)) (nI (a + i)) 0 ts
theorem dayS_sum (h0 h1 fx : Dy) (pa : Int32) (ts : List TR) (a : Nat) : ∀ i, a + i < 2 ^ 31 → dayS h0 h1 fx pa ts a (i + 1) = sumS h0 h1 fx pa (nI a) (nI (a + i)) 0 ts
  | 0, _ => Int64.zero_add _
  | i + 1, h => by
    show dayS h0 h1 fx pa ts a (i + 1) + _ = _
    rw [dayS_sum h0 h1 fx pa ts a i (by omega)]
    exact (sumS_split h0 h1 fx pa (a := a) (b := a + i) (by omega) h ts).symm
/-- the lesser of two pay days, -1 for none -/
def minO (a b : Int32) : Int32 := if b = -1 then a else if a = -1 then b else if b < a then b else a
def npT (h0 h1 : Dy) (pa day : Int32) (tr : TR) : Int32 := npS tr.1 tr.2.2 (bfC h0 h1 tr.1) pa day (np tr) 0
def nxT (h0 h1 : Dy) (pa day : Int32) : Int32 → List TR → Int32
  | v, [] => v
  | v, tr :: us => nxT h0 h1 pa day (minO v (npT h0 h1 pa day tr)) us
def cdPO (ts : List TR) (t day : Int32) : Nat := if (trd ts t).isNone then 1 else if inB day 0 3000 then 0 else 2
def cdCash (pa day : Int32) : Nat := if inB pa 0 3 = false then 1 else if inB day 0 3100 then 0 else 2
def cdSpan (pa d1 d2 : Int32) : Nat := if inB pa 0 3 = false then 1 else if inB d1 0 3100 ∧ inB d2 d1 (if d1 + 400 < 3100 then d1 + 400 else 3100) then 0 else 2
/-- the exception of a code -/
def xn2 : Nat → String
  | 1 => xI
  | 2 => xA
  | _ => xS
theorem SV.tn {h0 h1 fx : Dy} {ts : List TR} (hV : SV h0 h1 fx ts) : ts.length ≤ 10 := hV.2.2.2.2.2.2.2.1
theorem SV.tv {h0 h1 fx : Dy} {ts : List TR} (hV : SV h0 h1 fx ts) {i : Nat} {tr : TR} (ht : ts[i]? = some tr) : TV tr := hV.2.2.2.2.2.2.2.2 tr (List.mem_of_getElem? ht)
theorem span_nI {d1 d2 : Int32} (h : inB d1 0 3100 = true ∧ inB d2 d1 (if d1 + 400 < 3100 then d1 + 400 else 3100) = true) : ∃ a n, a + n ≤ 3100 ∧ d1 = nI a ∧ d2 = nI (a + n) := by
  obtain ⟨a, ha, e⟩ := inB_nI (n := 3100) h.1
  subst e
  have h2 := h.2
  unfold inB at h2
  rw [Bool.and_eq_true, decide_eq_true_eq, decide_eq_true_eq] at h2
  obtain ⟨b, hb, e⟩ := nI_of (Int32.not_lt.mpr (Int32.le_trans (nI_pos' (n := a) (by omega)) h2.1))
  subst e
  have h3 := (nI_leI (by omega) hb).mp h2.1
  have h4 : nI b ≤ 3100 := by
    refine Int32.le_trans h2.2 ?_
    split
    · rename_i c; exact Int32.le_of_lt c
    · exact Int32.le_refl _
  have h5 : b ≤ 3100 := (nI_leI (b := 3100) hb (by decide)).mp h4
  exact ⟨a, b - a, by omega, rfl, by rw [show a + (b - a) = b by omega]⟩
set_option maxRecDepth 100000 in
set_option maxHeartbeats 4000000 in
/-- trades -/
theorem c_xtrades (E : ET) (ow : Nat → Nat × Nat) (x : Nat) (h0 h1 fx : Dy) (ts : List TR) (H : Heap) (hX : XR E ow x h0 h1 fx ts H) (hV : SV h0 h1 fx ts) (hK : BL ts) : PCon E yX4_trades cX4_trades 1 (some FieldType.int) 6 [.ref x] H (some (.int (nI ts.length))) := by
  refine PCon.of (C := RX4) rfl (by decide +kernel) (Nat.le_of_ble_eq_true rfl) ?_
  intro p e s m below meth co ls hx hb hr hlk hml hown hts hE hH hl
  have hl : lv_has ls 1 [(0, .ref x)] := hl
  obtain ⟨q, fd, bk, wa, hO, hC, hD, hL, hT⟩ := hX.rd hV hK
  obtain ⟨fs0, hOb, hcl⟩ := hL.ob
  refine lv_aload_n hx hb dX4_trades_0 rfl (lv_at hl 0 rfl) ?_
  refine gf hx hb hts hown hE lkX4_26 hO rfl dX4_trades_1 ?_
  refine pV hx hb hml hts hown hE kwX4_85 (c_size E bk ts.length wa H hL) hOb rfl (Nat.le_of_ble_eq_true rfl) rfl hl.1 rfl (Nat.le_of_ble_eq_true rfl) (Nat.le_refl _) (Nat.le_refl _) dX4_trades_4 ?_
  exact pI hx hb hr hlk hH rfl dX4_trades_7

set_option maxRecDepth 100000 in
set_option maxHeartbeats 4000000 in
/-- partyOn -/
theorem c_xparty (E : ET) (ow : Nat → Nat × Nat) (x : Nat) (h0 h1 fx : Dy) (ts : List TR) (t day : Int32) (H : Heap) (hX : XR E ow x h0 h1 fx ts H) (hV : SV h0 h1 fx ts) (hK : BL ts)  : XCon E yX4_partyOn cX4_partyOn 4 (some FieldType.int) 10 2 12 [.ref x, .int t, .int day] H (fun r H' => (∃ tr, trd ts t = some tr ∧ cdPO ts t day = 0 ∧ r = some (.int (hldS tr.1 tr.2.2 day))) ∧ H' = H) (fun X => cdPO ts t day ≠ 0 ∧ X = xn2 (cdPO ts t day)) := by
  refine XCon.of (C := RX4) rfl (by decide +kernel) (Nat.le_of_ble_eq_true rfl) ?_
  intro p e s m below meth co ls hx hb hr hlk hml hown hts hxt hE hH hS hl
  have hl : lv_has ls 4 [(0, .ref x), (1, .int t), (2, .int day)] := hl
  have hB : eB E ≤ s.heap.size := by rw [hH]; exact hE.2.1
  have hE0 : EV E s s.heap := by rw [hH]; exact hE
  obtain ⟨q, fd, bk, wa, hO, hC, hD, hL, hT⟩ := hX.rd hV hK
  refine lv_aload_n hx hb dX4_partyOn_0 rfl (lv_at hl 0 rfl) ?_
  refine lv_iload_n hx hb dX4_partyOn_1 rfl (lv_at hl 1 rfl) ?_
  refine xVc hx hb hml hlk hxt hts hown hB hE hH hS kwX4_102 (c_swapAt E ow x q fd bk wa ts t H hO hL hV.tn (fun i hi => by obtain ⟨tr, ht⟩ := getq hi; obtain ⟨db, dh, bd, h9⟩ := hT i tr ht; exact ⟨_, h9.1⟩)) (fun X h => by have e9 : cdPO ts t day = 1 := (by unfold cdPO; rw [trd_no h.2]; rfl); rw [e9]; exact ⟨by decide, h.1⟩) hO rfl (Nat.le_of_ble_eq_true rfl) rfl hl.1 rfl (Nat.le_of_ble_eq_true rfl) (by omega) (by omega) dX4_partyOn_2 (fun v1 H1 L1 ho1 hz1 hE hS => ?_)
  obtain ⟨i, hi, et, hv1, hh1⟩ := ho1
  subst hv1
  have hh1 := hh1.symm
  subst hh1
  dsimp only [Option.toList, List.nil_append, List.cons_append]
  obtain ⟨tr, ht⟩ := getq hi
  have hin := hV.tn
  have etr : trd ts t = some tr := by rw [et, trd_nI (by omega)]; exact ht
  obtain ⟨db, dh, bd, hW⟩ := hT i tr ht
  have hW0 := hW.1
  obtain ⟨n6, n1, n10⟩ := (hV.tv ht).n
  have h9 := (hV.tv ht).w
  refine lv_astore_n (lv' := [(3, .ref (wa i)), (0, .ref x), (1, .int t), (2, .int day)]) hx hb dX4_partyOn_5 rfl hl (by decide) rfl (fun ls hl => ?_)
  refine lv_iload_n hx hb dX4_partyOn_6 rfl (lv_at hl 3 rfl) ?_
  refine lv_iconst (v := 0) hx hb dX4_partyOn_7 (by decide) ?_
  refine lv_sipush (v := 3000) hx hb dX4_partyOn_8 (by decide) ?_
  refine xSc hx hb hml hlk hxt hts hown hB hE hH hS kwX4_37 (c_crange E day 0 3000 H) (fun X h => by have e9 : cdPO ts t day = 2 := (by unfold cdPO; rw [etr, h.2]; rfl); rw [e9]; exact ⟨by decide, h.1⟩) (Nat.le_of_ble_eq_true rfl) rfl hl.1 rfl (Nat.le_of_ble_eq_true rfl) (by omega) (by omega) dX4_partyOn_11 (fun v2 H2 L2 ho2 hz2 hE hS => ?_)
  obtain ⟨g1, hv2, hh2⟩ := ho2
  subst hv2
  have hh2 := hh2.symm
  subst hh2
  dsimp only [Option.toList, List.nil_append, List.cons_append]
  refine lv_aload_n hx hb dX4_partyOn_14 rfl (lv_at hl 0 rfl) ?_
  refine lv_iload_n hx hb dX4_partyOn_15 rfl (lv_at hl 3 rfl) ?_
  refine pV hx hb hml hts hown hE kwX4_131 (c_hold E (wa i) tr.1 db dh bd (bfC h0 h1 tr.1) tr.2.1 tr.2.2 day H hW) hW0 rfl (Nat.le_of_ble_eq_true rfl) rfl hl.1 rfl (Nat.le_of_ble_eq_true rfl) (by omega) (by omega) dX4_partyOn_16 ?_
  exact vx_ret (cI hx hb hr hlk hB hS (by omega) (by omega) (⟨⟨tr, etr, by unfold cdPO; rw [etr, g1]; rfl, rfl⟩, rfl⟩) dX4_partyOn_19)

set_option maxRecDepth 100000 in
set_option maxHeartbeats 4000000 in
/-- cashOnDay -/
theorem c_cday (E : ET) (x q fd bk : Nat) (wa : Nat → Nat) (h0 h1 fx : Dy) (ts : List TR) (pa d : Int32) (H : Heap) (hO : OB E 5 [.ref q, .ref fd, .ref bk] x H) (hC : CR E q h0 h1 H) (hD : DR E fd fx H) (hL : LR E bk ts.length wa H) (hT : ∀ t tr, ts[t]? = some tr → ∃ db dh bd, SRx E (wa t) tr.1 db dh bd (bfC h0 h1 tr.1) tr.2.1 tr.2.2 H) (hV : SV h0 h1 fx ts) : PCon E yX4_cashOnDay cX4_cashOnDay 6 (some FieldType.long) 9 [.ref x, .int pa, .int d] H (some (.long (sumS h0 h1 fx pa d d 0 ts))) := by
  refine PCon.of (C := RX4) rfl (by decide +kernel) (Nat.le_of_ble_eq_true rfl) ?_
  intro p e s m below meth co ls hx hb hr hlk hml hown hts hE hH hl
  have hl : lv_has ls 6 [(0, .ref x), (1, .int pa), (2, .int d)] := hl
  obtain ⟨fs0, hOb, hcl⟩ := hL.ob
  refine lv_lconst (v := 0) hx hb dX4_cashOnDay_0 (by decide) ?_
  refine lv_lstore_n (lv' := [(3, .long 0), (0, .ref x), (1, .int pa), (2, .int d)]) hx hb dX4_cashOnDay_1 rfl hl (by decide) rfl (fun ls hl => ?_)
  refine lv_iconst (v := 0) hx hb dX4_cashOnDay_2 (by decide) ?_
  refine lv_istore (lv' := [(5, .int 0), (3, .long 0), (0, .ref x), (1, .int pa), (2, .int d)]) hx hb dX4_cashOnDay_3 hl (by decide) rfl (fun ls hl => ?_)
  have loop : ∀ (us : List TR) (i : Nat) (v : Int64) (ls : Array Slot), ts.drop i = us → i ≤ ts.length → sumS h0 h1 fx pa d d 0 ts = sumS h0 h1 fx pa d d v us → lv_has ls 6 [(5, .int (nI i)), (3, .long v), (0, .ref x), (1, .int pa), (2, .int d)] → W p (eL E) e (rmk 9 0 0) s m ([.ref x, .int pa, .int d]).toArray below meth co H [] 0 0 (MQ below (PQ (some (.long (sumS h0 h1 fx pa d d 0 ts)))) ([.ref x, .int pa, .int d]).toArray s 0 0 (fun _ => False)) (F0 m 5 ls []) := by
    intro us
    induction us with
    | nil =>
      intro i v ls hd hi he hl
      have hi2 := drop_n hd hi
      have hin := hV.tn
      refine lv_iload hx hb dX4_cashOnDay_5 (lv_at hl 0 rfl) ?_
      refine lv_aload_n hx hb dX4_cashOnDay_7 rfl (lv_at hl 2 rfl) ?_
      refine gf hx hb hts hown hE lkX4_26 hO rfl dX4_cashOnDay_8 ?_
      refine pV hx hb hml hts hown hE kwX4_85 (c_size E bk ts.length wa H hL) hOb rfl (Nat.le_of_ble_eq_true rfl) rfl hl.1 rfl (Nat.le_of_ble_eq_true rfl) (Nat.le_refl _) (Nat.le_refl _) dX4_cashOnDay_11 ?_
      refine lv_icmp_ge (tgt := 48) hx hb dX4_cashOnDay_14 (by decide) (fun c9 => ?_) (fun c9 => ?_)
      rotate_left
      · exact absurd (nI_le (by omega) (by omega)) c9
      refine lv_lload_n hx hb dX4_cashOnDay_48 rfl (lv_at hl 1 rfl) ?_
      exact pL hx hb hr hlk hH (by rw [he]; rfl) dX4_cashOnDay_49
    | cons tr us ih =>
      intro i v ls hd hi he hl
      obtain ⟨ht, hlt, hd2⟩ := drop_c hd
      have hin := hV.tn
      refine lv_iload hx hb dX4_cashOnDay_5 (lv_at hl 0 rfl) ?_
      refine lv_aload_n hx hb dX4_cashOnDay_7 rfl (lv_at hl 2 rfl) ?_
      refine gf hx hb hts hown hE lkX4_26 hO rfl dX4_cashOnDay_8 ?_
      refine pV hx hb hml hts hown hE kwX4_85 (c_size E bk ts.length wa H hL) hOb rfl (Nat.le_of_ble_eq_true rfl) rfl hl.1 rfl (Nat.le_of_ble_eq_true rfl) (Nat.le_refl _) (Nat.le_refl _) dX4_cashOnDay_11 ?_
      refine lv_icmp_ge (tgt := 48) hx hb dX4_cashOnDay_14 (by decide) (fun c9 => ?_) (fun c9 => ?_)
      · exact absurd c9 (nI_ge hlt (by omega))
      obtain ⟨db, dh, bd, hW⟩ := hT i tr ht
      have hW0 := hW.1
      obtain ⟨n6, n1, n10⟩ := (hV.tv ht).n
      have h9 := (hV.tv ht).w
      refine lv_lload_n hx hb dX4_cashOnDay_17 rfl (lv_at hl 1 rfl) ?_
      refine lv_aload_n hx hb dX4_cashOnDay_18 rfl (lv_at hl 2 rfl) ?_
      refine gf hx hb hts hown hE lkX4_26 hO rfl dX4_cashOnDay_19 ?_
      refine lv_iload hx hb dX4_cashOnDay_22 (lv_at hl 0 rfl) ?_
      refine pV hx hb hml hts hown hE kwX4_134 (c_get E bk ts.length i wa H hL hlt) hOb rfl (Nat.le_of_ble_eq_true rfl) rfl hl.1 rfl (Nat.le_of_ble_eq_true rfl) (Nat.le_refl _) (Nat.le_refl _) dX4_cashOnDay_24 ?_
      refine cst hx hb hts hown hE qw2_74 hW0 rfl dX4_cashOnDay_27 ?_
      refine lv_iload_n hx hb dX4_cashOnDay_30 rfl (lv_at hl 3 rfl) ?_
      refine lv_iload_n hx hb dX4_cashOnDay_31 rfl (lv_at hl 4 rfl) ?_
      refine lv_iload_n hx hb dX4_cashOnDay_32 rfl (lv_at hl 4 rfl) ?_
      refine lv_aload_n hx hb dX4_cashOnDay_33 rfl (lv_at hl 2 rfl) ?_
      refine gf hx hb hts hown hE lkX4_19 hO rfl dX4_cashOnDay_34 ?_
      refine pV hx hb hml hts hown hE kwX4_169 (c_cashOf E (wa i) tr.1 db dh bd (bfC h0 h1 tr.1) tr.2.1 tr.2.2 (np tr) fd pa d d fx H n6 n10 h9 hD hW) hW0 rfl (Nat.le_of_ble_eq_true rfl) rfl hl.1 rfl (Nat.le_of_ble_eq_true rfl) (Nat.le_refl _) (Nat.le_refl _) dX4_cashOnDay_37 ?_
      refine lv_ladd hx hb dX4_cashOnDay_40 ?_
      refine lv_lstore_n (lv' := [(3, .long (v + csh1 h0 h1 fx pa d d tr)), (5, .int (nI i)), (0, .ref x), (1, .int pa), (2, .int d)]) hx hb dX4_cashOnDay_41 rfl hl (by decide) rfl (fun ls hl => ?_)
      refine lv_iinc (v := nI (i + 1)) (lv' := [(5, .int (nI (i + 1))), (3, .long (v + csh1 h0 h1 fx pa d d tr)), (0, .ref x), (1, .int pa), (2, .int d)]) hx hb dX4_cashOnDay_42 hl (k := 1) rfl (nI_1 i) (by decide) rfl (fun ls hl => ?_)
      refine lv_goto (tgt := 5) hx hb dX4_cashOnDay_45 (by decide) ?_
      exact ih (i + 1) _ ls hd2 (by omega) (he.trans (sumS_cons _ _ _ _ _ _ _ _ _)) (lv_sub hl [0, 1, 2, 3, 4] rfl)
  exact loop ts 0 0 ls rfl (Nat.zero_le _) rfl (lv_sub hl [0, 1, 2, 3, 4] rfl)

set_option maxRecDepth 100000 in
set_option maxHeartbeats 4000000 in
/-- cashByTrades -/
theorem c_xbytr (E : ET) (ow : Nat → Nat × Nat) (x : Nat) (h0 h1 fx : Dy) (ts : List TR) (pa d1 d2 : Int32) (H : Heap) (hX : XR E ow x h0 h1 fx ts H) (hV : SV h0 h1 fx ts) (hK : BL ts)  : XCon E yX4_cashByTrades cX4_cashByTrades 7 (some FieldType.long) 10 3 18 [.ref x, .int pa, .int d1, .int d2] H (fun r H' => (cdSpan pa d1 d2 = 0 ∧ r = some (.long (sumS h0 h1 fx pa d1 d2 0 ts))) ∧ H' = H) (fun X => cdSpan pa d1 d2 ≠ 0 ∧ X = xn2 (cdSpan pa d1 d2)) := by
  refine XCon.of (C := RX4) rfl (by decide +kernel) (Nat.le_of_ble_eq_true rfl) ?_
  intro p e s m below meth co ls hx hb hr hlk hml hown hts hxt hE hH hS hl
  have hl : lv_has ls 7 [(0, .ref x), (1, .int pa), (2, .int d1), (3, .int d2)] := hl
  have hB : eB E ≤ s.heap.size := by rw [hH]; exact hE.2.1
  have hE0 : EV E s s.heap := by rw [hH]; exact hE
  obtain ⟨q, fd, bk, wa, hO, hC, hD, hL, hT⟩ := hX.rd hV hK
  refine lv_iload_n hx hb dX4_cashByTrades_0 rfl (lv_at hl 1 rfl) ?_
  refine xSc hx hb hml hlk hxt hts hown hB hE hH hS kwX4_81 (c_cparty E pa H) (fun X h => by have e9 : cdSpan pa d1 d2 = 1 := (by unfold cdSpan; rw [if_pos h.2]); rw [e9]; exact ⟨by decide, h.1⟩) (Nat.le_of_ble_eq_true rfl) rfl hl.1 rfl (Nat.le_of_ble_eq_true rfl) (by omega) (by omega) dX4_cashByTrades_1 (fun v1 H1 L1 ho1 hz1 hE hS => ?_)
  obtain ⟨g0, hv1, hh1⟩ := ho1
  subst hv1
  have hh1 := hh1.symm
  subst hh1
  dsimp only [Option.toList, List.nil_append, List.cons_append]
  refine lv_iload_n hx hb dX4_cashByTrades_4 rfl (lv_at hl 2 rfl) ?_
  refine lv_iload_n hx hb dX4_cashByTrades_5 rfl (lv_at hl 3 rfl) ?_
  refine xSc hx hb hml hlk hxt hts hown hB hE hH hS kwX4_166 (c_cspan E d1 d2 H) (fun X h => by have e9 : cdSpan pa d1 d2 = 2 := (by unfold cdSpan; rw [g0, if_neg (by decide), if_neg h.2]); rw [e9]; exact ⟨by decide, h.1⟩) (Nat.le_of_ble_eq_true rfl) rfl hl.1 rfl (Nat.le_of_ble_eq_true rfl) (by omega) (by omega) dX4_cashByTrades_6 (fun v2 H2 L2 ho2 hz2 hE hS => ?_)
  obtain ⟨g1, hv2, hh2⟩ := ho2
  subst hv2
  have hh2 := hh2.symm
  subst hh2
  dsimp only [Option.toList, List.nil_append, List.cons_append]
  have hcd : cdSpan pa d1 d2 = 0 := by unfold cdSpan; rw [g0, if_neg (by decide), if_pos g1]
  obtain ⟨fs0, hOb, hcl⟩ := hL.ob
  refine lv_lconst (v := 0) hx hb dX4_cashByTrades_9 (by decide) ?_
  refine lv_lstore (lv' := [(4, .long 0), (0, .ref x), (1, .int pa), (2, .int d1), (3, .int d2)]) hx hb dX4_cashByTrades_10 hl (by decide) rfl (fun ls hl => ?_)
  refine lv_iconst (v := 0) hx hb dX4_cashByTrades_12 (by decide) ?_
  refine lv_istore (lv' := [(6, .int 0), (4, .long 0), (0, .ref x), (1, .int pa), (2, .int d1), (3, .int d2)]) hx hb dX4_cashByTrades_13 hl (by decide) rfl (fun ls hl => ?_)
  have loop : ∀ (us : List TR) (i : Nat) (v : Int64) (ls : Array Slot), ts.drop i = us → i ≤ ts.length → sumS h0 h1 fx pa d1 d2 0 ts = sumS h0 h1 fx pa d1 d2 v us → lv_has ls 7 [(6, .int (nI i)), (4, .long v), (0, .ref x), (1, .int pa), (2, .int d1), (3, .int d2)] → W p (eL E) e (rmk 10 3 18) s m ([.ref x, .int pa, .int d1, .int d2]).toArray below meth co H L2 ((0 + 1) + 2) ((0 + 6) + 12) (vx_MQ below (CQ E (fun r H' => (cdSpan pa d1 d2 = 0 ∧ r = some (.long (sumS h0 h1 fx pa d1 d2 0 ts))) ∧ H' = H)) (XQ E (fun X => cdSpan pa d1 d2 ≠ 0 ∧ X = xn2 (cdSpan pa d1 d2))) ([.ref x, .int pa, .int d1, .int d2]).toArray s 3 18 (fr E)) (F0 m 15 ls []) := by
    intro us
    induction us with
    | nil =>
      intro i v ls hd hi he hl
      have hi2 := drop_n hd hi
      have hin := hV.tn
      refine lv_iload hx hb dX4_cashByTrades_15 (lv_at hl 0 rfl) ?_
      refine lv_aload_n hx hb dX4_cashByTrades_17 rfl (lv_at hl 2 rfl) ?_
      refine gf hx hb hts hown hE lkX4_26 hO rfl dX4_cashByTrades_18 ?_
      refine pV hx hb hml hts hown hE kwX4_85 (c_size E bk ts.length wa H hL) hOb rfl (Nat.le_of_ble_eq_true rfl) rfl hl.1 rfl (Nat.le_of_ble_eq_true rfl) (by omega) (by omega) dX4_cashByTrades_21 ?_
      refine lv_icmp_ge (tgt := 60) hx hb dX4_cashByTrades_24 (by decide) (fun c9 => ?_) (fun c9 => ?_)
      rotate_left
      · exact absurd (nI_le (by omega) (by omega)) c9
      refine lv_lload hx hb dX4_cashByTrades_60 (lv_at hl 1 rfl) ?_
      exact vx_ret (cL hx hb hr hlk hB hS (by omega) (by omega) (⟨⟨hcd, by rw [he]; rfl⟩, rfl⟩) dX4_cashByTrades_62)
    | cons tr us ih =>
      intro i v ls hd hi he hl
      obtain ⟨ht, hlt, hd2⟩ := drop_c hd
      have hin := hV.tn
      refine lv_iload hx hb dX4_cashByTrades_15 (lv_at hl 0 rfl) ?_
      refine lv_aload_n hx hb dX4_cashByTrades_17 rfl (lv_at hl 2 rfl) ?_
      refine gf hx hb hts hown hE lkX4_26 hO rfl dX4_cashByTrades_18 ?_
      refine pV hx hb hml hts hown hE kwX4_85 (c_size E bk ts.length wa H hL) hOb rfl (Nat.le_of_ble_eq_true rfl) rfl hl.1 rfl (Nat.le_of_ble_eq_true rfl) (by omega) (by omega) dX4_cashByTrades_21 ?_
      refine lv_icmp_ge (tgt := 60) hx hb dX4_cashByTrades_24 (by decide) (fun c9 => ?_) (fun c9 => ?_)
      · exact absurd c9 (nI_ge hlt (by omega))
      obtain ⟨db, dh, bd, hW⟩ := hT i tr ht
      have hW0 := hW.1
      obtain ⟨n6, n1, n10⟩ := (hV.tv ht).n
      have h9 := (hV.tv ht).w
      refine lv_lload hx hb dX4_cashByTrades_27 (lv_at hl 1 rfl) ?_
      refine lv_aload_n hx hb dX4_cashByTrades_29 rfl (lv_at hl 2 rfl) ?_
      refine gf hx hb hts hown hE lkX4_26 hO rfl dX4_cashByTrades_30 ?_
      refine lv_iload hx hb dX4_cashByTrades_33 (lv_at hl 0 rfl) ?_
      refine pV hx hb hml hts hown hE kwX4_134 (c_get E bk ts.length i wa H hL hlt) hOb rfl (Nat.le_of_ble_eq_true rfl) rfl hl.1 rfl (Nat.le_of_ble_eq_true rfl) (by omega) (by omega) dX4_cashByTrades_35 ?_
      refine cst hx hb hts hown hE qw2_74 hW0 rfl dX4_cashByTrades_38 ?_
      refine lv_iload_n hx hb dX4_cashByTrades_41 rfl (lv_at hl 3 rfl) ?_
      refine lv_iload_n hx hb dX4_cashByTrades_42 rfl (lv_at hl 4 rfl) ?_
      refine lv_iload_n hx hb dX4_cashByTrades_43 rfl (lv_at hl 5 rfl) ?_
      refine lv_aload_n hx hb dX4_cashByTrades_44 rfl (lv_at hl 2 rfl) ?_
      refine gf hx hb hts hown hE lkX4_19 hO rfl dX4_cashByTrades_45 ?_
      refine pV hx hb hml hts hown hE kwX4_169 (c_cashOf E (wa i) tr.1 db dh bd (bfC h0 h1 tr.1) tr.2.1 tr.2.2 (np tr) fd pa d1 d2 fx H n6 n10 h9 hD hW) hW0 rfl (Nat.le_of_ble_eq_true rfl) rfl hl.1 rfl (Nat.le_of_ble_eq_true rfl) (by omega) (by omega) dX4_cashByTrades_48 ?_
      refine lv_ladd hx hb dX4_cashByTrades_51 ?_
      refine lv_lstore (lv' := [(4, .long (v + csh1 h0 h1 fx pa d1 d2 tr)), (6, .int (nI i)), (0, .ref x), (1, .int pa), (2, .int d1), (3, .int d2)]) hx hb dX4_cashByTrades_52 hl (by decide) rfl (fun ls hl => ?_)
      refine lv_iinc (v := nI (i + 1)) (lv' := [(6, .int (nI (i + 1))), (4, .long (v + csh1 h0 h1 fx pa d1 d2 tr)), (0, .ref x), (1, .int pa), (2, .int d1), (3, .int d2)]) hx hb dX4_cashByTrades_54 hl (k := 1) rfl (nI_1 i) (by decide) rfl (fun ls hl => ?_)
      refine lv_goto (tgt := 15) hx hb dX4_cashByTrades_57 (by decide) ?_
      exact ih (i + 1) _ ls hd2 (by omega) (he.trans (sumS_cons _ _ _ _ _ _ _ _ _)) (lv_sub hl [0, 1, 2, 3, 4, 5] rfl)
  exact loop ts 0 0 ls rfl (Nat.zero_le _) rfl (lv_sub hl [0, 1, 2, 3, 4, 5] rfl)

set_option maxRecDepth 100000 in
set_option maxHeartbeats 4000000 in
/-- cashOfDays -/
theorem c_xdays (E : ET) (ow : Nat → Nat × Nat) (x : Nat) (h0 h1 fx : Dy) (ts : List TR) (pa d1 d2 : Int32) (H : Heap) (hX : XR E ow x h0 h1 fx ts H) (hV : SV h0 h1 fx ts) (hK : BL ts)  : XCon E yX4_cashOfDays cX4_cashOfDays 7 (some FieldType.long) 10 3 18 [.ref x, .int pa, .int d1, .int d2] H (fun r H' => (cdSpan pa d1 d2 = 0 ∧ r = some (.long (sumS h0 h1 fx pa d1 d2 0 ts))) ∧ H' = H) (fun X => cdSpan pa d1 d2 ≠ 0 ∧ X = xn2 (cdSpan pa d1 d2)) := by
  refine XCon.of (C := RX4) rfl (by decide +kernel) (Nat.le_of_ble_eq_true rfl) ?_
  intro p e s m below meth co ls hx hb hr hlk hml hown hts hxt hE hH hS hl
  have hl : lv_has ls 7 [(0, .ref x), (1, .int pa), (2, .int d1), (3, .int d2)] := hl
  have hB : eB E ≤ s.heap.size := by rw [hH]; exact hE.2.1
  have hE0 : EV E s s.heap := by rw [hH]; exact hE
  obtain ⟨q, fd, bk, wa, hO, hC, hD, hL, hT⟩ := hX.rd hV hK
  refine lv_iload_n hx hb dX4_cashOfDays_0 rfl (lv_at hl 1 rfl) ?_
  refine xSc hx hb hml hlk hxt hts hown hB hE hH hS kwX4_81 (c_cparty E pa H) (fun X h => by have e9 : cdSpan pa d1 d2 = 1 := (by unfold cdSpan; rw [if_pos h.2]); rw [e9]; exact ⟨by decide, h.1⟩) (Nat.le_of_ble_eq_true rfl) rfl hl.1 rfl (Nat.le_of_ble_eq_true rfl) (by omega) (by omega) dX4_cashOfDays_1 (fun v1 H1 L1 ho1 hz1 hE hS => ?_)
  obtain ⟨g0, hv1, hh1⟩ := ho1
  subst hv1
  have hh1 := hh1.symm
  subst hh1
  dsimp only [Option.toList, List.nil_append, List.cons_append]
  refine lv_iload_n hx hb dX4_cashOfDays_4 rfl (lv_at hl 2 rfl) ?_
  refine lv_iload_n hx hb dX4_cashOfDays_5 rfl (lv_at hl 3 rfl) ?_
  refine xSc hx hb hml hlk hxt hts hown hB hE hH hS kwX4_166 (c_cspan E d1 d2 H) (fun X h => by have e9 : cdSpan pa d1 d2 = 2 := (by unfold cdSpan; rw [g0, if_neg (by decide), if_neg h.2]); rw [e9]; exact ⟨by decide, h.1⟩) (Nat.le_of_ble_eq_true rfl) rfl hl.1 rfl (Nat.le_of_ble_eq_true rfl) (by omega) (by omega) dX4_cashOfDays_6 (fun v2 H2 L2 ho2 hz2 hE hS => ?_)
  obtain ⟨g1, hv2, hh2⟩ := ho2
  subst hv2
  have hh2 := hh2.symm
  subst hh2
  dsimp only [Option.toList, List.nil_append, List.cons_append]
  have hcd : cdSpan pa d1 d2 = 0 := by unfold cdSpan; rw [g0, if_neg (by decide), if_pos g1]
  obtain ⟨fs0, hOb, hcl⟩ := hL.ob
  obtain ⟨a, n, ha, e1, e2⟩ := span_nI g1
  subst e1 e2
  refine lv_lconst (v := 0) hx hb dX4_cashOfDays_9 (by decide) ?_
  refine lv_lstore (lv' := [(4, .long 0), (0, .ref x), (1, .int pa), (2, .int (nI a)), (3, .int (nI (a + n)))]) hx hb dX4_cashOfDays_10 hl (by decide) rfl (fun ls hl => ?_)
  refine lv_iload_n hx hb dX4_cashOfDays_12 rfl (lv_at hl 3 rfl) ?_
  refine lv_istore (lv' := [(6, .int (nI a)), (4, .long 0), (0, .ref x), (1, .int pa), (2, .int (nI a)), (3, .int (nI (a + n)))]) hx hb dX4_cashOfDays_13 hl (by decide) rfl (fun ls hl => ?_)
  have loop : ∀ (r i : Nat) (ls : Array Slot), i + r = n + 1 → lv_has ls 7 [(6, .int (nI (a + i))), (4, .long (dayS h0 h1 fx pa ts a i)), (0, .ref x), (1, .int pa), (2, .int (nI a)), (3, .int (nI (a + n)))] → W p (eL E) e (rmk 10 3 18) s m ([.ref x, .int pa, .int (nI a), .int (nI (a + n))]).toArray below meth co H L2 ((0 + 1) + 2) ((0 + 6) + 12) (vx_MQ below (CQ E (fun r H' => (cdSpan pa (nI a) (nI (a + n)) = 0 ∧ r = some (.long (sumS h0 h1 fx pa (nI a) (nI (a + n)) 0 ts))) ∧ H' = H)) (XQ E (fun X => cdSpan pa (nI a) (nI (a + n)) ≠ 0 ∧ X = xn2 (cdSpan pa (nI a) (nI (a + n))))) ([.ref x, .int pa, .int (nI a), .int (nI (a + n))]).toArray s 3 18 (fr E)) (F0 m 15 ls []) := by
    intro r
    induction r with
    | zero =>
      intro i ls hi hl
      have hi2 : i = n + 1 := by omega
      subst hi2
      refine lv_iload hx hb dX4_cashOfDays_15 (lv_at hl 0 rfl) ?_
      refine lv_iload_n hx hb dX4_cashOfDays_17 rfl (lv_at hl 5 rfl) ?_
      refine lv_icmp_gt (tgt := 39) hx hb dX4_cashOfDays_18 (by decide) (fun c9 => ?_) (fun c9 => ?_)
      rotate_left
      · exact absurd (nI_lt (by omega) (by omega)) c9
      refine lv_lload hx hb dX4_cashOfDays_39 (lv_at hl 1 rfl) ?_
      exact vx_ret (cL hx hb hr hlk hB hS (by omega) (by omega) (⟨⟨hcd, by rw [dayS_sum _ _ _ _ _ _ _ (by omega)]⟩, rfl⟩) dX4_cashOfDays_41)
    | succ r ih =>
      intro i ls hi hl
      refine lv_iload hx hb dX4_cashOfDays_15 (lv_at hl 0 rfl) ?_
      refine lv_iload_n hx hb dX4_cashOfDays_17 rfl (lv_at hl 5 rfl) ?_
      refine lv_icmp_gt (tgt := 39) hx hb dX4_cashOfDays_18 (by decide) (fun c9 => ?_) (fun c9 => ?_)
      · exact absurd c9 (nI_nlt (by omega) (by omega))
      refine lv_lload hx hb dX4_cashOfDays_21 (lv_at hl 1 rfl) ?_
      refine lv_aload_n hx hb dX4_cashOfDays_23 rfl (lv_at hl 2 rfl) ?_
      refine lv_iload_n hx hb dX4_cashOfDays_24 rfl (lv_at hl 3 rfl) ?_
      refine lv_iload hx hb dX4_cashOfDays_25 (lv_at hl 0 rfl) ?_
      refine pV hx hb hml hts hown hE kwX4_162 (c_cday E x q fd bk wa h0 h1 fx ts pa (nI (a + i)) H hO hC hD hL hT hV) hO rfl (Nat.le_of_ble_eq_true rfl) rfl hl.1 rfl (Nat.le_of_ble_eq_true rfl) (by omega) (by omega) dX4_cashOfDays_27 ?_
      refine lv_ladd hx hb dX4_cashOfDays_30 ?_
      refine lv_lstore (lv' := [(4, .long (dayS h0 h1 fx pa ts a i + sumS h0 h1 fx pa (nI (a + i)) (nI (a + i)) 0 ts)), (6, .int (nI (a + i))), (0, .ref x), (1, .int pa), (2, .int (nI a)), (3, .int (nI (a + n)))]) hx hb dX4_cashOfDays_31 hl (by decide) rfl (fun ls hl => ?_)
      refine lv_iinc (v := nI (a + (i + 1))) (lv' := [(6, .int (nI (a + (i + 1)))), (4, .long (dayS h0 h1 fx pa ts a i + sumS h0 h1 fx pa (nI (a + i)) (nI (a + i)) 0 ts)), (0, .ref x), (1, .int pa), (2, .int (nI a)), (3, .int (nI (a + n)))]) hx hb dX4_cashOfDays_33 hl (k := 1) rfl (nI_1 (a + i)) (by decide) rfl (fun ls hl => ?_)
      refine lv_goto (tgt := 15) hx hb dX4_cashOfDays_36 (by decide) ?_
      exact ih (i + 1) ls (by omega) (lv_sub hl [0, 1, 2, 3, 4, 5] rfl)
  exact loop (n + 1) 0 ls (by omega) (lv_sub hl [0, 1, 2, 3, 4, 5] rfl)

set_option maxRecDepth 100000 in
set_option maxHeartbeats 4000000 in
/-- nextFlow -/
theorem c_xnext (E : ET) (ow : Nat → Nat × Nat) (x : Nat) (h0 h1 fx : Dy) (ts : List TR) (pa d : Int32) (H : Heap) (hX : XR E ow x h0 h1 fx ts H) (hV : SV h0 h1 fx ts) (hK : BL ts)  : XCon E yX4_nextFlow cX4_nextFlow 6 (some FieldType.int) 10 2 12 [.ref x, .int pa, .int d] H (fun r H' => (cdCash pa d = 0 ∧ r = some (.int (nxT h0 h1 pa d (-1) ts))) ∧ H' = H) (fun X => cdCash pa d ≠ 0 ∧ X = xn2 (cdCash pa d)) := by
  refine XCon.of (C := RX4) rfl (by decide +kernel) (Nat.le_of_ble_eq_true rfl) ?_
  intro p e s m below meth co ls hx hb hr hlk hml hown hts hxt hE hH hS hl
  have hl : lv_has ls 6 [(0, .ref x), (1, .int pa), (2, .int d)] := hl
  have hB : eB E ≤ s.heap.size := by rw [hH]; exact hE.2.1
  have hE0 : EV E s s.heap := by rw [hH]; exact hE
  obtain ⟨q, fd, bk, wa, hO, hC, hD, hL, hT⟩ := hX.rd hV hK
  refine lv_iload_n hx hb dX4_nextFlow_0 rfl (lv_at hl 1 rfl) ?_
  refine xSc hx hb hml hlk hxt hts hown hB hE hH hS kwX4_81 (c_cparty E pa H) (fun X h => by have e9 : cdCash pa d = 1 := (by unfold cdCash; rw [if_pos h.2]); rw [e9]; exact ⟨by decide, h.1⟩) (Nat.le_of_ble_eq_true rfl) rfl hl.1 rfl (Nat.le_of_ble_eq_true rfl) (by omega) (by omega) dX4_nextFlow_1 (fun v1 H1 L1 ho1 hz1 hE hS => ?_)
  obtain ⟨g0, hv1, hh1⟩ := ho1
  subst hv1
  have hh1 := hh1.symm
  subst hh1
  dsimp only [Option.toList, List.nil_append, List.cons_append]
  refine lv_iload_n hx hb dX4_nextFlow_4 rfl (lv_at hl 2 rfl) ?_
  refine lv_iconst (v := 0) hx hb dX4_nextFlow_5 (by decide) ?_
  refine lv_sipush (v := 3100) hx hb dX4_nextFlow_6 (by decide) ?_
  refine xSc hx hb hml hlk hxt hts hown hB hE hH hS kwX4_37 (c_crange E d 0 3100 H) (fun X h => by have e9 : cdCash pa d = 2 := (by unfold cdCash; rw [g0, h.2]; rfl); rw [e9]; exact ⟨by decide, h.1⟩) (Nat.le_of_ble_eq_true rfl) rfl hl.1 rfl (Nat.le_of_ble_eq_true rfl) (by omega) (by omega) dX4_nextFlow_9 (fun v2 H2 L2 ho2 hz2 hE hS => ?_)
  obtain ⟨g1, hv2, hh2⟩ := ho2
  subst hv2
  have hh2 := hh2.symm
  subst hh2
  dsimp only [Option.toList, List.nil_append, List.cons_append]
  have hcd : cdCash pa d = 0 := by unfold cdCash; rw [g0, g1]; rfl
  obtain ⟨fs0, hOb, hcl⟩ := hL.ob
  refine lv_iconst (v := (-1)) hx hb dX4_nextFlow_12 (by decide) ?_
  refine lv_istore_n (lv' := [(3, .int (-1)), (0, .ref x), (1, .int pa), (2, .int d)]) hx hb dX4_nextFlow_13 rfl hl (by decide) rfl (fun ls hl => ?_)
  refine lv_iconst (v := 0) hx hb dX4_nextFlow_14 (by decide) ?_
  refine lv_istore (lv' := [(4, .int 0), (3, .int (-1)), (0, .ref x), (1, .int pa), (2, .int d)]) hx hb dX4_nextFlow_15 hl (by decide) rfl (fun ls hl => ?_)
  have loop : ∀ (us : List TR) (i : Nat) (v : Int32) (ls : Array Slot), ts.drop i = us → i ≤ ts.length → nxT h0 h1 pa d (-1) ts = nxT h0 h1 pa d v us → lv_has ls 6 [(4, .int (nI i)), (3, .int v), (0, .ref x), (1, .int pa), (2, .int d)] → W p (eL E) e (rmk 10 2 12) s m ([.ref x, .int pa, .int d]).toArray below meth co H L2 ((0 + 1) + 1) ((0 + 6) + 6) (vx_MQ below (CQ E (fun r H' => (cdCash pa d = 0 ∧ r = some (.int (nxT h0 h1 pa d (-1) ts))) ∧ H' = H)) (XQ E (fun X => cdCash pa d ≠ 0 ∧ X = xn2 (cdCash pa d))) ([.ref x, .int pa, .int d]).toArray s 2 12 (fr E)) (F0 m 17 ls []) := by
    intro us
    induction us with
    | nil =>
      intro i v ls hd hi he hl
      have hi2 := drop_n hd hi
      have hin := hV.tn
      refine lv_iload hx hb dX4_nextFlow_17 (lv_at hl 0 rfl) ?_
      refine lv_aload_n hx hb dX4_nextFlow_19 rfl (lv_at hl 2 rfl) ?_
      refine gf hx hb hts hown hE lkX4_26 hO rfl dX4_nextFlow_20 ?_
      refine pV hx hb hml hts hown hE kwX4_85 (c_size E bk ts.length wa H hL) hOb rfl (Nat.le_of_ble_eq_true rfl) rfl hl.1 rfl (Nat.le_of_ble_eq_true rfl) (by omega) (by omega) dX4_nextFlow_23 ?_
      refine lv_icmp_ge (tgt := 74) hx hb dX4_nextFlow_26 (by decide) (fun c9 => ?_) (fun c9 => ?_)
      rotate_left
      · exact absurd (nI_le (by omega) (by omega)) c9
      refine lv_iload_n hx hb dX4_nextFlow_74 rfl (lv_at hl 1 rfl) ?_
      exact vx_ret (cI hx hb hr hlk hB hS (by omega) (by omega) (⟨⟨hcd, by rw [he]; rfl⟩, rfl⟩) dX4_nextFlow_75)
    | cons tr us ih =>
      intro i v ls hd hi he hl
      obtain ⟨ht, hlt, hd2⟩ := drop_c hd
      have hin := hV.tn
      refine lv_iload hx hb dX4_nextFlow_17 (lv_at hl 0 rfl) ?_
      refine lv_aload_n hx hb dX4_nextFlow_19 rfl (lv_at hl 2 rfl) ?_
      refine gf hx hb hts hown hE lkX4_26 hO rfl dX4_nextFlow_20 ?_
      refine pV hx hb hml hts hown hE kwX4_85 (c_size E bk ts.length wa H hL) hOb rfl (Nat.le_of_ble_eq_true rfl) rfl hl.1 rfl (Nat.le_of_ble_eq_true rfl) (by omega) (by omega) dX4_nextFlow_23 ?_
      refine lv_icmp_ge (tgt := 74) hx hb dX4_nextFlow_26 (by decide) (fun c9 => ?_) (fun c9 => ?_)
      · exact absurd c9 (nI_ge hlt (by omega))
      obtain ⟨db, dh, bd, hW⟩ := hT i tr ht
      have hW0 := hW.1
      obtain ⟨n6, n1, n10⟩ := (hV.tv ht).n
      have h9 := (hV.tv ht).w
      refine lv_aload_n hx hb dX4_nextFlow_29 rfl (lv_at hl 2 rfl) ?_
      refine gf hx hb hts hown hE lkX4_26 hO rfl dX4_nextFlow_30 ?_
      refine lv_iload hx hb dX4_nextFlow_33 (lv_at hl 0 rfl) ?_
      refine pV hx hb hml hts hown hE kwX4_134 (c_get E bk ts.length i wa H hL hlt) hOb rfl (Nat.le_of_ble_eq_true rfl) rfl hl.1 rfl (Nat.le_of_ble_eq_true rfl) (by omega) (by omega) dX4_nextFlow_35 ?_
      refine cst hx hb hts hown hE qw2_74 hW0 rfl dX4_nextFlow_38 ?_
      refine lv_iload_n hx hb dX4_nextFlow_41 rfl (lv_at hl 3 rfl) ?_
      refine lv_iload_n hx hb dX4_nextFlow_42 rfl (lv_at hl 4 rfl) ?_
      refine pV hx hb hml hts hown hE kwX4_173 (c_np E (wa i) tr.1 db dh bd (bfC h0 h1 tr.1) tr.2.1 tr.2.2 (np tr) pa d H n6 n10 hW) hW0 rfl (Nat.le_of_ble_eq_true rfl) rfl hl.1 rfl (Nat.le_of_ble_eq_true rfl) (by omega) (by omega) dX4_nextFlow_43 ?_
      refine lv_istore (lv' := [(5, .int (npT h0 h1 pa d tr)), (4, .int (nI i)), (3, .int v), (0, .ref x), (1, .int pa), (2, .int d)]) hx hb dX4_nextFlow_46 hl (by decide) rfl (fun ls hl => ?_)
      refine lv_iload hx hb dX4_nextFlow_48 (lv_at hl 0 rfl) ?_
      refine lv_iconst (v := (-1)) hx hb dX4_nextFlow_50 (by decide) ?_
      refine lv_icmp_eq (tgt := 68) hx hb dX4_nextFlow_51 (by decide) (fun c1 => ?_) (fun c1 => ?_)
      · refine lv_iinc (v := nI (i + 1)) (lv' := [(4, .int (nI (i + 1))), (5, .int (npT h0 h1 pa d tr)), (3, .int v), (0, .ref x), (1, .int pa), (2, .int d)]) hx hb dX4_nextFlow_68 hl (k := 1) rfl (nI_1 i) (by decide) rfl (fun ls hl => ?_)
        refine lv_goto (tgt := 17) hx hb dX4_nextFlow_71 (by decide) ?_
        refine ih (i + 1) _ ls hd2 (by omega) ?_ (lv_sub hl [0, 2, 3, 4, 5] rfl)
        rw [he]
        show nxT h0 h1 pa d (minO v (npT h0 h1 pa d tr)) us = _
        rw [minO, if_pos c1]
      · refine lv_iload_n hx hb dX4_nextFlow_54 rfl (lv_at hl 2 rfl) ?_
        refine lv_iconst (v := (-1)) hx hb dX4_nextFlow_55 (by decide) ?_
        refine lv_icmp_eq (tgt := 65) hx hb dX4_nextFlow_56 (by decide) (fun c2 => ?_) (fun c2 => ?_)
        · refine lv_iload hx hb dX4_nextFlow_65 (lv_at hl 0 rfl) ?_
          refine lv_istore_n (lv' := [(3, .int (npT h0 h1 pa d tr)), (5, .int (npT h0 h1 pa d tr)), (4, .int (nI i)), (0, .ref x), (1, .int pa), (2, .int d)]) hx hb dX4_nextFlow_67 rfl hl (by decide) rfl (fun ls hl => ?_)
          refine lv_iinc (v := nI (i + 1)) (lv' := [(4, .int (nI (i + 1))), (3, .int (npT h0 h1 pa d tr)), (5, .int (npT h0 h1 pa d tr)), (0, .ref x), (1, .int pa), (2, .int d)]) hx hb dX4_nextFlow_68 hl (k := 2) rfl (nI_1 i) (by decide) rfl (fun ls hl => ?_)
          refine lv_goto (tgt := 17) hx hb dX4_nextFlow_71 (by decide) ?_
          refine ih (i + 1) _ ls hd2 (by omega) ?_ (lv_sub hl [0, 1, 3, 4, 5] rfl)
          rw [he]
          show nxT h0 h1 pa d (minO v (npT h0 h1 pa d tr)) us = _
          rw [minO, if_neg c1, if_pos c2]
        · refine lv_iload hx hb dX4_nextFlow_59 (lv_at hl 0 rfl) ?_
          refine lv_iload_n hx hb dX4_nextFlow_61 rfl (lv_at hl 2 rfl) ?_
          refine lv_icmp_ge (tgt := 68) hx hb dX4_nextFlow_62 (by decide) (fun c3 => ?_) (fun c3 => ?_)
          · refine lv_iinc (v := nI (i + 1)) (lv' := [(4, .int (nI (i + 1))), (5, .int (npT h0 h1 pa d tr)), (3, .int v), (0, .ref x), (1, .int pa), (2, .int d)]) hx hb dX4_nextFlow_68 hl (k := 1) rfl (nI_1 i) (by decide) rfl (fun ls hl => ?_)
            refine lv_goto (tgt := 17) hx hb dX4_nextFlow_71 (by decide) ?_
            refine ih (i + 1) _ ls hd2 (by omega) ?_ (lv_sub hl [0, 2, 3, 4, 5] rfl)
            rw [he]
            show nxT h0 h1 pa d (minO v (npT h0 h1 pa d tr)) us = _
            rw [minO, if_neg c1, if_neg c2, if_neg (Int32.not_lt.mpr c3)]
          · refine lv_iload hx hb dX4_nextFlow_65 (lv_at hl 0 rfl) ?_
            refine lv_istore_n (lv' := [(3, .int (npT h0 h1 pa d tr)), (5, .int (npT h0 h1 pa d tr)), (4, .int (nI i)), (0, .ref x), (1, .int pa), (2, .int d)]) hx hb dX4_nextFlow_67 rfl hl (by decide) rfl (fun ls hl => ?_)
            refine lv_iinc (v := nI (i + 1)) (lv' := [(4, .int (nI (i + 1))), (3, .int (npT h0 h1 pa d tr)), (5, .int (npT h0 h1 pa d tr)), (0, .ref x), (1, .int pa), (2, .int d)]) hx hb dX4_nextFlow_68 hl (k := 2) rfl (nI_1 i) (by decide) rfl (fun ls hl => ?_)
            refine lv_goto (tgt := 17) hx hb dX4_nextFlow_71 (by decide) ?_
            refine ih (i + 1) _ ls hd2 (by omega) ?_ (lv_sub hl [0, 1, 3, 4, 5] rfl)
            rw [he]
            show nxT h0 h1 pa d (minO v (npT h0 h1 pa d tr)) us = _
            rw [minO, if_neg c1, if_neg c2, if_pos (Int32.not_le.mp c3)]
  exact loop ts 0 (-1) ls rfl (Nat.zero_le _) rfl (lv_sub hl [0, 1, 2, 3, 4] rfl)
