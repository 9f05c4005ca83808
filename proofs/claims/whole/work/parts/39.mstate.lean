/-- the reference with its places: x bears (4, 0), its arrays (4, k) -/
def MR (E : ET) (ow : Nat → Nat × Nat) (x : Nat) (sc : Nat → Int32) (ad : Nat → Nat) (ar : Nat → Nat → Int32) (H : Heap) : Prop := MX E x sc ad ar H ∧ (ow x = (4, 0) ∧ eB E ≤ x) ∧ ∀ k, mK k = true → ow (ad k) = (4, k) ∧ eB E ≤ ad k
def upA (ar : Nat → Nat → Int32) (k : Nat) (f : Nat → Int32) : Nat → Nat → Int32 := fun j => if j = k then f else ar j
theorem mK_0 {k : Nat} (h : mK k = true) : 0 < k ∧ k ≤ 23 := by
  unfold mK at h
  simp only [Bool.and_eq_true, decide_eq_true_eq] at h
  omega
theorem MR.ne {E : ET} {ow : Nat → Nat × Nat} {x : Nat} {sc : Nat → Int32} {ad : Nat → Nat} {ar : Nat → Nat → Int32} {H : Heap} (h : MR E ow x sc ad ar H) (k : Nat) (hk : mK k = true) : x ≠ ad k := fun e => by
  have h1 := h.2.1.1
  rw [e, (h.2.2 k hk).1] at h1
  have := congrArg (fun z : Nat × Nat => z.2) h1
  have h2 := mK_0 hk
  have this : k = 0 := this
  omega
theorem MR.put {E : ET} {ow : Nat → Nat × Nat} {x : Nat} {sc sc' : Nat → Int32} {ad : Nat → Nat} {ar : Nat → Nat → Int32} {H H1 : Heap} (h : MR E ow x sc ad ar H) (hO : OB E 6 (mfs sc' ad) x H1) (hq : ∀ q : Nat, q ≠ x → H1[q]? = H[q]?) : MR E ow x sc' ad ar H1 :=
  ⟨⟨hO, fun k hk => pk1 (h.1.2 k hk) (hq _ (fun e => h.ne k hk e.symm))⟩, h.2⟩
theorem MR.arr {E : ET} {ow : Nat → Nat × Nat} {x k : Nat} {sc : Nat → Int32} {ad : Nat → Nat} {ar : Nat → Nat → Int32} {f : Nat → Int32} {H H1 : Heap} (h : MR E ow x sc ad ar H) (hk : mK k = true) (hA : va_P (eD E) vwCl [(ad k, .inl (eA E (mZ k), mN k, .inl f))] H1) (hq : ∀ q : Nat, q ≠ ad k → H1[q]? = H[q]?) : MR E ow x sc ad (upA ar k f) H1 :=
  ⟨⟨pk1 h.1.1 (hq x (h.ne k hk)), fun j hj => by
    unfold upA
    by_cases c : j = k
    · subst c; rw [if_pos rfl]; exact hA
    · rw [if_neg c]
      refine pk1 (h.1.2 j hj) (hq _ (fun e => c ?_))
      have h1 := (h.2.2 j hj).1
      rw [e, (h.2.2 k hk).1] at h1
      exact (congrArg (fun z : Nat × Nat => z.2) h1).symm⟩, h.2⟩
/-- the reference as the law sees it: it stands for the lists, its last code is c -/
def MW (E : ET) (ow : Nat → Nat × Nat) (x : Nat) (h0 h1 fx : Dy) (ts : List TR) (B : BK) (c : Nat) (H : Heap) : Prop := ∃ sc ad ar, MR E ow x sc ad ar H ∧ MI sc ar h0 h1 fx ts B ∧ sc 0 = nI c
def MO (E : ET) (ow : Nat → Nat × Nat) (x : Nat) (h0 h1 fx : Dy) (ts : List TR) (B : BK) (c : Nat) (H H' : Heap) : Prop := MW E ow x h0 h1 fx ts B c H' ∧ FR (fun z => (ow z).1 = 4 ∧ (ow z).2 ≤ 23) H H' ∧ H'.size = H.size
theorem inB_pred {v : Int32} {n : Nat} {h : n < 2 ^ 31} : inB v 0 (nI n - 1) = true ↔ ∃ i, i < n ∧ v = nI i := by
  unfold inB
  rw [Bool.and_eq_true, decide_eq_true_eq, decide_eq_true_eq]
  cases n with
  | zero =>
    constructor
    · intro q
      exact absurd (Int32.le_trans q.1 q.2) (by decide)
    · rintro ⟨i, hi, -⟩; omega
  | succ n =>
    rw [nI_pred]
    constructor
    · intro q
      obtain ⟨j, hj, e⟩ := nI_of (Int32.not_lt.mpr q.1)
      subst e
      exact ⟨j, by have := (nI_leI hj (by omega)).mp q.2; omega, rfl⟩
    · rintro ⟨i, hi, e⟩
      subst e
      exact ⟨nI_pos' (by omega), nI_le (by omega) (by omega)⟩
def cdDay (d : Int32) : Nat := if inB d 0 3000 then 0 else 1
def cdPd (ts : List TR) (t k : Int32) : Nat := match trd ts t with
  | none => 1
  | some tr => if (prd tr k).isSome then 0 else 1
theorem inB_n {v hi : Int32} {n : Nat} (h : inB v 0 hi = false) (hn : hi = nI n := by decide) (hb : n < 2 ^ 31 := by decide) : ¬ ∃ j, j ≤ n ∧ v = nI j := by
  rintro ⟨j, hj, e⟩
  subst e hn
  unfold inB at h
  rw [decide_eq_true (nI_pos' (n := j) (by omega)), decide_eq_true (nI_le hj hb)] at h
  cases h
theorem cdSpan_le (pa d1 d2 : Int32) : cdSpan pa d1 d2 ≤ 2 := by
  have k : ∀ (c : Prop) [Decidable c], (if c then 0 else 2) ≤ 2 := fun c _ => by
    by_cases h : c
    · rw [if_pos h]; decide
    · rw [if_neg h]; decide
  unfold cdSpan
  by_cases c : inB pa 0 3 = false
  · rw [if_pos c]; decide
  · rw [if_neg c]; exact k _
theorem in31 {d1 : Int32} (h : inB d1 0 3100 = true) : 0 ≤ d1.toInt ∧ d1.toInt ≤ 3100 := by
  unfold inB at h
  rw [Bool.and_eq_true, decide_eq_true_eq, decide_eq_true_eq, Int32.le_iff_toInt_le, Int32.le_iff_toInt_le] at h
  exact h
theorem in_sp {d1 d2 : Int32} (h : inB d1 0 3100 = true) : inB d2 d1 (if d1 + 400 < 3100 then d1 + 400 else 3100) = true ↔ d1.toInt ≤ d2.toInt ∧ d2.toInt ≤ 3100 ∧ d2.toInt ≤ d1.toInt + 400 := by
  have h1 := in31 h
  have e : (d1 + 400).toInt = d1.toInt + 400 := by
    rw [Int32.toInt_add]
    show (d1.toInt + 400).bmod (2 ^ 32) = _
    exact Int.bmod_eq_of_le (by omega) (by omega)
  have e2 : (3100 : Int32).toInt = 3100 := by decide
  unfold inB
  rw [Bool.and_eq_true, decide_eq_true_eq, decide_eq_true_eq, Int32.le_iff_toInt_le, Int32.le_iff_toInt_le]
  by_cases c : d1 + 400 < 3100
  · rw [if_pos c]
    rw [Int32.lt_iff_toInt_lt, e, e2] at c
    rw [e]
    omega
  · rw [if_neg c, e2]
    rw [Int32.lt_iff_toInt_lt, e, e2] at c
    omega
theorem span_no1 {d1 d2 hi : Int32} (c : d2 < d1) (h : inB d2 d1 hi = true) : False := by
  unfold inB at h
  rw [Bool.and_eq_true, decide_eq_true_eq] at h
  exact absurd c (Int32.not_lt.mpr h.1)
theorem span_no2 {d1 d2 : Int32} (c1 : inB d1 0 3100 = true) (c : 3100 < d2) (h : inB d2 d1 (if d1 + 400 < 3100 then d1 + 400 else 3100) = true) : False := by
  have := (in_sp c1).mp h
  rw [Int32.lt_iff_toInt_lt] at c
  have c : (3100 : Int) < d2.toInt := c
  omega
theorem sub_i {d1 d2 : Int32} (c1 : inB d1 0 3100 = true) (c3 : ¬ d2 < d1) : (d2 - d1).toInt = d2.toInt - d1.toInt := by
  have h1 := in31 c1
  rw [Int32.lt_iff_toInt_lt] at c3
  have b1 := d2.toInt_lt
  rw [Int32.toInt_sub]
  exact Int.bmod_eq_of_le (by omega) (by omega)
theorem span_no3 {d1 d2 : Int32} (c1 : inB d1 0 3100 = true) (c3 : ¬ d2 < d1) (c : 400 < d2 - d1) (h : inB d2 d1 (if d1 + 400 < 3100 then d1 + 400 else 3100) = true) : False := by
  have := (in_sp c1).mp h
  rw [Int32.lt_iff_toInt_lt, sub_i c1 c3] at c
  have c : (400 : Int) < d2.toInt - d1.toInt := c
  omega
theorem span_yes {d1 d2 : Int32} (c1 : inB d1 0 3100 = true) (c3 : ¬ d2 < d1) (c4 : ¬ (3100 : Int32) < d2) (c5 : ¬ (400 : Int32) < d2 - d1) : inB d2 d1 (if d1 + 400 < 3100 then d1 + 400 else 3100) = true := by
  refine (in_sp c1).mpr ?_
  rw [Int32.lt_iff_toInt_lt, sub_i c1 c3] at c5
  rw [Int32.lt_iff_toInt_lt] at c4 c3
  have c4 : ¬ (3100 : Int) < d2.toInt := c4
  have c5 : ¬ (400 : Int) < d2.toInt - d1.toInt := c5
  omega
theorem prd_t {tr : TR} {k : Int32} (h : inB k 0 (nI (np tr) - 1) = true) (hn : np tr < 2 ^ 31) : (prd tr k).isSome = true := by
  obtain ⟨j, hj, e⟩ := (inB_pred (h := hn)).mp h
  rw [e, prd_nI (by omega) hj]
  rfl
theorem prd_f {tr : TR} {k : Int32} (h : inB k 0 (nI (np tr) - 1) = false) (hn : np tr < 2 ^ 31) : (prd tr k).isSome = false := by
  cases c : prd tr k with
  | none => rfl
  | some j =>
    unfold prd at c
    split at c
    · cases c
    · rename_i hk
      obtain ⟨i, hi, e⟩ := nI_of hk
      subst e
      rw [nI_clamp hi] at c
      split at c
      · rename_i hlt
        rw [inB_pred (h := hn) |>.mpr ⟨i, hlt, rfl⟩] at h
        cases h
      · cases c
theorem cdPd_c (ts : List TR) (t k : Int32) : (cdPd ts t k = 0 ∧ ∃ tr j, trd ts t = some tr ∧ prd tr k = some j) ∨ ¬ cdPd ts t k = 0 := by
  unfold cdPd
  cases trd ts t with
  | none => exact Or.inr Nat.one_ne_zero
  | some tr =>
    show ((if (prd tr k).isSome then 0 else 1) = 0 ∧ _) ∨ ¬ (if (prd tr k).isSome then 0 else 1) = 0
    cases c : prd tr k with
    | none => exact Or.inr (by simp)
    | some j => exact Or.inl ⟨by simp, tr, j, rfl, c⟩
theorem trd_i {ts : List TR} {t : Int32} {tr : TR} (h : trd ts t = some tr) : ∃ i, i < ts.length ∧ t = nI i ∧ ts[i]? = some tr := by
  unfold trd at h
  split at h
  · cases h
  · rename_i hk
    obtain ⟨i, hi, e⟩ := nI_of hk
    subst e
    rw [nI_clamp hi] at h
    exact ⟨i, (List.getElem?_eq_some_iff.mp h).1, rfl, h⟩
theorem prd_i {tr : TR} {k : Int32} {j : Nat} (h : prd tr k = some j) : j < np tr ∧ k = nI j := by
  unfold prd at h
  split at h
  · cases h
  · rename_i hk
    obtain ⟨i, hi, e⟩ := nI_of hk
    subst e
    rw [nI_clamp hi] at h
    split at h
    · rename_i hl
      cases h
      exact ⟨hl, rfl⟩
    · cases h
set_option maxRecDepth 100000 in
set_option maxHeartbeats 4000000 in
/-- thrown -/
theorem c_mthrown (E : ET) (x : Nat) (sc : Nat → Int32) (ad : Nat → Nat) (ar : Nat → Nat → Int32) (H : Heap) (hX : MX E x sc ad ar H) : PCon E yX5_thrown cX5_thrown 1 (some FieldType.int) 1 [.ref x] H (some (.int (sc 0))) := by
  refine PCon.of (C := RX5) rfl (by decide +kernel) (Nat.le_of_ble_eq_true rfl) ?_
  intro p e s m below meth co ls hx hb hr hlk hml hown hts hE hH hl
  have hl : lv_has ls 1 [(0, .ref x)] := hl
  refine lv_aload_n hx hb dX5_thrown_0 rfl (lv_at hl 0 rfl) ?_
  refine gf hx hb hts hown hE lkX5_71 hX.1 rfl dX5_thrown_1 ?_
  exact pI hx hb hr hlk hH rfl dX5_thrown_4

set_option maxRecDepth 100000 in
set_option maxHeartbeats 4000000 in
/-- fails -/
theorem c_mfails (E : ET) (ow : Nat → Nat × Nat) (x : Nat) (sc : Nat → Int32) (ad : Nat → Nat) (ar : Nat → Nat → Int32) (h0 h1 fx : Dy) (ts : List TR) (B : BK) (c : Nat) (H : Heap) (hM : MR E ow x sc ad ar H) (hI : MI sc ar h0 h1 fx ts B) (hV : SV h0 h1 fx ts)  : Con E yX5_fails cX5_fails 2 (some FieldType.int) 2 0 0 [.ref x, .int (nI c)] H (o1 (some (.int 0)) (fun H' => MO E ow x h0 h1 fx ts B (c) H H')) := by
  refine Con.of (C := RX5) rfl (by decide +kernel) (Nat.le_of_ble_eq_true rfl) ?_
  intro p e s m below meth co ls hx hb hr hlk hml hown hts hin hE hH hS hl
  have hl : lv_has ls 2 [(0, .ref x), (1, .int (nI c))] := hl
  have hB : eB E ≤ s.heap.size := by rw [hH]; exact hE.2.1
  have hO := hM.1.1
  have htn := hV.tn
  have hn6 := hI.2.2.2.2.1
  have hF : FR (fun z => (ow z).1 = 4 ∧ (ow z).2 ≤ 23) H H := FR.rf
  refine lv_aload_n hx hb dX5_fails_0 rfl (lv_at hl 0 rfl) ?_
  refine lv_iload_n hx hb dX5_fails_1 rfl (lv_at hl 1 rfl) ?_
  refine pf hx hb hts hown hE hS pkX5_71 rfl hO hM.2.1.2 rfl rfl (Nat.le_of_ble_eq_true rfl) dX5_fails_2 (fun H1 L1 hO1 hz1 hq1 hE hS => ?_)
  have hO : OB E 6 [.int (nI c), .ref (ad 1), .ref (ad 2), .ref (ad 3), .ref (ad 4), .int (sc 5), .int (sc 6), .ref (ad 7), .ref (ad 8), .ref (ad 9), .ref (ad 10), .ref (ad 11), .ref (ad 12), .ref (ad 13), .ref (ad 14), .ref (ad 15), .ref (ad 16), .int (sc 17), .ref (ad 18), .ref (ad 19), .ref (ad 20), .ref (ad 21), .ref (ad 22), .ref (ad 23)] x H1 := hO1
  have hF := hF.put hz1 hq1 (fun _ => ⟨by rw [hM.2.1.1], by rw [hM.2.1.1]; exact Nat.zero_le _⟩)
  have hM := hM.put (sc' := (upd sc 0 (nI c))) hO hq1
  have hI : MI (upd sc 0 (nI c)) ar h0 h1 fx ts B := hI
  refine lv_iconst (v := 0) hx hb dX5_fails_5 (by decide) ?_
  exact cI hx hb hr hlk hB hS (by omega) (by omega) (⟨rfl, ⟨(upd sc 0 (nI c)), ad, ar, hM, hI, rfl⟩, hF, by omega⟩) dX5_fails_6

set_option maxRecDepth 100000 in
set_option maxHeartbeats 4000000 in
/-- trades -/
theorem c_mtrades (E : ET) (ow : Nat → Nat × Nat) (x : Nat) (sc : Nat → Int32) (ad : Nat → Nat) (ar : Nat → Nat → Int32) (h0 h1 fx : Dy) (ts : List TR) (B : BK)  (H : Heap) (hM : MR E ow x sc ad ar H) (hI : MI sc ar h0 h1 fx ts B) (hV : SV h0 h1 fx ts)  : Con E yX5_trades cX5_trades 1 (some FieldType.int) 2 0 0 [.ref x] H (o1 (some (.int (nI ts.length))) (fun H' => MO E ow x h0 h1 fx ts B (0) H H')) := by
  refine Con.of (C := RX5) rfl (by decide +kernel) (Nat.le_of_ble_eq_true rfl) ?_
  intro p e s m below meth co ls hx hb hr hlk hml hown hts hin hE hH hS hl
  have hl : lv_has ls 1 [(0, .ref x)] := hl
  have hB : eB E ≤ s.heap.size := by rw [hH]; exact hE.2.1
  have hO := hM.1.1
  have htn := hV.tn
  have hn6 := hI.2.2.2.2.1
  have hF : FR (fun z => (ow z).1 = 4 ∧ (ow z).2 ≤ 23) H H := FR.rf
  refine lv_aload_n hx hb dX5_trades_0 rfl (lv_at hl 0 rfl) ?_
  refine lv_iconst (v := 0) hx hb dX5_trades_1 (by decide) ?_
  refine pf hx hb hts hown hE hS pkX5_71 rfl hO hM.2.1.2 rfl rfl (Nat.le_of_ble_eq_true rfl) dX5_trades_2 (fun H1 L1 hO1 hz1 hq1 hE hS => ?_)
  have hO : OB E 6 [.int 0, .ref (ad 1), .ref (ad 2), .ref (ad 3), .ref (ad 4), .int (sc 5), .int (sc 6), .ref (ad 7), .ref (ad 8), .ref (ad 9), .ref (ad 10), .ref (ad 11), .ref (ad 12), .ref (ad 13), .ref (ad 14), .ref (ad 15), .ref (ad 16), .int (sc 17), .ref (ad 18), .ref (ad 19), .ref (ad 20), .ref (ad 21), .ref (ad 22), .ref (ad 23)] x H1 := hO1
  have hF := hF.put hz1 hq1 (fun _ => ⟨by rw [hM.2.1.1], by rw [hM.2.1.1]; exact Nat.zero_le _⟩)
  have hM := hM.put (sc' := (upd sc 0 0)) hO hq1
  have hI : MI (upd sc 0 0) ar h0 h1 fx ts B := hI
  refine lv_aload_n hx hb dX5_trades_5 rfl (lv_at hl 0 rfl) ?_
  refine gf hx hb hts hown hE lkX5_79 hO rfl dX5_trades_6 ?_
  exact cI hx hb hr hlk hB hS (by omega) (by omega) (⟨by rw [← hn6], ⟨(upd sc 0 0), ad, ar, hM, hI, rfl⟩, hF, by omega⟩) dX5_trades_9

set_option maxRecDepth 100000 in
set_option maxHeartbeats 4000000 in
/-- isOpen -/
theorem c_mopen (E : ET) (ow : Nat → Nat × Nat) (x : Nat) (sc : Nat → Int32) (ad : Nat → Nat) (ar : Nat → Nat → Int32) (h0 h1 fx : Dy) (ts : List TR) (B : BK) (d : Int32) (H : Heap) (hM : MR E ow x sc ad ar H) (hI : MI sc ar h0 h1 fx ts B) (hV : SV h0 h1 fx ts)  : Con E yX5_isOpen cX5_isOpen 2 (some FieldType.boolean) 5 0 0 [.ref x, .int d] H (o1 (some (.int (if cdDay d = 0 then (if opn h0 h1 d.toNatClampNeg then 1 else 0) else 0))) (fun H' => MO E ow x h0 h1 fx ts B (cdDay d) H H')) := by
  refine Con.of (C := RX5) rfl (by decide +kernel) (Nat.le_of_ble_eq_true rfl) ?_
  intro p e s m below meth co ls hx hb hr hlk hml hown hts hin hE hH hS hl
  have hl : lv_has ls 2 [(0, .ref x), (1, .int d)] := hl
  have hB : eB E ≤ s.heap.size := by rw [hH]; exact hE.2.1
  have hO := hM.1.1
  have htn := hV.tn
  have hn6 := hI.2.2.2.2.1
  have hF : FR (fun z => (ow z).1 = 4 ∧ (ow z).2 ≤ 23) H H := FR.rf
  refine lv_aload_n hx hb dX5_isOpen_0 rfl (lv_at hl 0 rfl) ?_
  refine lv_iload_n hx hb dX5_isOpen_1 rfl (lv_at hl 1 rfl) ?_
  refine pS hx hb hml hts hown hE kwX5_89 (c_isDay E d H) (Nat.le_of_ble_eq_true rfl) rfl hl.1 rfl (Nat.le_of_ble_eq_true rfl) (by omega) (by omega) dX5_isOpen_2 ?_
  cases c3 : inB d 0 3000 with
  | false =>
    have hcd : cdDay d = 1 := by unfold cdDay; rw [c3]; rfl
    refine lv_if_eq (tgt := 12) hx hb dX5_isOpen_5 (by decide) (fun c4 => ?_) (fun c4 => ?_)
    rotate_left
    · exact absurd (by decide) c4
    refine lv_iconst (v := 1) hx hb dX5_isOpen_12 (by decide) ?_
    refine pf hx hb hts hown hE hS pkX5_71 rfl hO hM.2.1.2 rfl rfl (Nat.le_of_ble_eq_true rfl) dX5_isOpen_13 (fun H1 L1 hO1 hz1 hq1 hE hS => ?_)
    have hO : OB E 6 [.int 1, .ref (ad 1), .ref (ad 2), .ref (ad 3), .ref (ad 4), .int (sc 5), .int (sc 6), .ref (ad 7), .ref (ad 8), .ref (ad 9), .ref (ad 10), .ref (ad 11), .ref (ad 12), .ref (ad 13), .ref (ad 14), .ref (ad 15), .ref (ad 16), .int (sc 17), .ref (ad 18), .ref (ad 19), .ref (ad 20), .ref (ad 21), .ref (ad 22), .ref (ad 23)] x H1 := hO1
    have hF := hF.put hz1 hq1 (fun _ => ⟨by rw [hM.2.1.1], by rw [hM.2.1.1]; exact Nat.zero_le _⟩)
    have hM := hM.put (sc' := (upd sc 0 1)) hO hq1
    have hI : MI (upd sc 0 1) ar h0 h1 fx ts B := hI
    refine lv_aload_n hx hb dX5_isOpen_16 rfl (lv_at hl 0 rfl) ?_
    refine gf hx hb hts hown hE lkX5_71 hO rfl dX5_isOpen_17 ?_
    refine lv_if_ne (tgt := 35) hx hb dX5_isOpen_20 (by decide) (fun c5 => ?_) (fun c5 => ?_)
    rotate_left
    · exact absurd c5 (by decide)
    refine lv_iconst (v := 0) hx hb dX5_isOpen_35 (by decide) ?_
    exact cZ hx hb hr hlk hB hS (by omega) (by omega) (by decide) (⟨by rw [hcd]; rfl, ⟨(upd sc 0 1), ad, ar, hM, hI, by rw [hcd]; rfl⟩, hF, by omega⟩) dX5_isOpen_36
  | true =>
    have hcd : cdDay d = 0 := by unfold cdDay; rw [c3]; rfl
    obtain ⟨j, hj, ej⟩ := inB_nI (n := 3000) c3
    subst ej
    rw [nI_clamp (by omega)]
    refine lv_if_eq (tgt := 12) hx hb dX5_isOpen_5 (by decide) (fun c4 => ?_) (fun c4 => ?_)
    · exact absurd c4 (by decide)
    refine lv_iconst (v := 0) hx hb dX5_isOpen_8 (by decide) ?_
    refine lv_goto (tgt := 13) hx hb dX5_isOpen_9 (by decide) ?_
    refine pf hx hb hts hown hE hS pkX5_71 rfl hO hM.2.1.2 rfl rfl (Nat.le_of_ble_eq_true rfl) dX5_isOpen_13 (fun H1 L1 hO1 hz1 hq1 hE hS => ?_)
    have hO : OB E 6 [.int 0, .ref (ad 1), .ref (ad 2), .ref (ad 3), .ref (ad 4), .int (sc 5), .int (sc 6), .ref (ad 7), .ref (ad 8), .ref (ad 9), .ref (ad 10), .ref (ad 11), .ref (ad 12), .ref (ad 13), .ref (ad 14), .ref (ad 15), .ref (ad 16), .int (sc 17), .ref (ad 18), .ref (ad 19), .ref (ad 20), .ref (ad 21), .ref (ad 22), .ref (ad 23)] x H1 := hO1
    have hF := hF.put hz1 hq1 (fun _ => ⟨by rw [hM.2.1.1], by rw [hM.2.1.1]; exact Nat.zero_le _⟩)
    have hM := hM.put (sc' := (upd sc 0 0)) hO hq1
    have hI : MI (upd sc 0 0) ar h0 h1 fx ts B := hI
    refine lv_aload_n hx hb dX5_isOpen_16 rfl (lv_at hl 0 rfl) ?_
    refine gf hx hb hts hown hE lkX5_71 hO rfl dX5_isOpen_17 ?_
    refine lv_if_ne (tgt := 35) hx hb dX5_isOpen_20 (by decide) (fun c5 => ?_) (fun c5 => ?_)
    · exact absurd (by decide) c5
    refine lv_aload_n hx hb dX5_isOpen_23 rfl (lv_at hl 0 rfl) ?_
    refine lv_iload_n hx hb dX5_isOpen_24 rfl (lv_at hl 1 rfl) ?_
    refine pV hx hb hml hts hown hE kwX5_86 (c_opens E x (upd sc 0 0) ad ar h0 h1 fx ts B j H1 hM.1 hI hV (by omega)) hO rfl (Nat.le_of_ble_eq_true rfl) rfl hl.1 rfl (Nat.le_of_ble_eq_true rfl) (by omega) (by omega) dX5_isOpen_25 ?_
    cases c6 : opn h0 h1 j with
    | true =>
      refine lv_if_eq (tgt := 35) hx hb dX5_isOpen_28 (by decide) (fun c7 => ?_) (fun c7 => ?_)
      · exact absurd c7 (by decide)
      refine lv_iconst (v := 1) hx hb dX5_isOpen_31 (by decide) ?_
      refine lv_goto (tgt := 36) hx hb dX5_isOpen_32 (by decide) ?_
      exact cZ hx hb hr hlk hB hS (by omega) (by omega) (by decide) (⟨by rw [hcd]; rfl, ⟨(upd sc 0 0), ad, ar, hM, hI, by rw [hcd]; rfl⟩, hF, by omega⟩) dX5_isOpen_36
    | false =>
      refine lv_if_eq (tgt := 35) hx hb dX5_isOpen_28 (by decide) (fun c7 => ?_) (fun c7 => ?_)
      rotate_left
      · exact absurd (by decide) c7
      refine lv_iconst (v := 0) hx hb dX5_isOpen_35 (by decide) ?_
      exact cZ hx hb hr hlk hB hS (by omega) (by omega) (by decide) (⟨by rw [hcd]; rfl, ⟨(upd sc 0 0), ad, ar, hM, hI, by rw [hcd]; rfl⟩, hF, by omega⟩) dX5_isOpen_36

set_option maxRecDepth 100000 in
set_option maxHeartbeats 4000000 in
/-- roll -/
theorem c_mroll (E : ET) (ow : Nat → Nat × Nat) (x : Nat) (sc : Nat → Int32) (ad : Nat → Nat) (ar : Nat → Nat → Int32) (h0 h1 fx : Dy) (ts : List TR) (B : BK) (d : Int32) (H : Heap) (hM : MR E ow x sc ad ar H) (hI : MI sc ar h0 h1 fx ts B) (hV : SV h0 h1 fx ts)  : Con E yX5_roll cX5_roll 2 (some FieldType.int) 5 0 0 [.ref x, .int d] H (o1 (some (.int (if cdDay d = 0 then nI (rol h0 h1 d.toNatClampNeg) else 0))) (fun H' => MO E ow x h0 h1 fx ts B (cdDay d) H H')) := by
  refine Con.of (C := RX5) rfl (by decide +kernel) (Nat.le_of_ble_eq_true rfl) ?_
  intro p e s m below meth co ls hx hb hr hlk hml hown hts hin hE hH hS hl
  have hl : lv_has ls 2 [(0, .ref x), (1, .int d)] := hl
  have hB : eB E ≤ s.heap.size := by rw [hH]; exact hE.2.1
  have hO := hM.1.1
  have htn := hV.tn
  have hn6 := hI.2.2.2.2.1
  have hF : FR (fun z => (ow z).1 = 4 ∧ (ow z).2 ≤ 23) H H := FR.rf
  refine lv_aload_n hx hb dX5_roll_0 rfl (lv_at hl 0 rfl) ?_
  refine lv_iconst (v := 0) hx hb dX5_roll_1 (by decide) ?_
  refine pf hx hb hts hown hE hS pkX5_71 rfl hO hM.2.1.2 rfl rfl (Nat.le_of_ble_eq_true rfl) dX5_roll_2 (fun H1 L1 hO1 hz1 hq1 hE hS => ?_)
  have hO : OB E 6 [.int 0, .ref (ad 1), .ref (ad 2), .ref (ad 3), .ref (ad 4), .int (sc 5), .int (sc 6), .ref (ad 7), .ref (ad 8), .ref (ad 9), .ref (ad 10), .ref (ad 11), .ref (ad 12), .ref (ad 13), .ref (ad 14), .ref (ad 15), .ref (ad 16), .int (sc 17), .ref (ad 18), .ref (ad 19), .ref (ad 20), .ref (ad 21), .ref (ad 22), .ref (ad 23)] x H1 := hO1
  have hF := hF.put hz1 hq1 (fun _ => ⟨by rw [hM.2.1.1], by rw [hM.2.1.1]; exact Nat.zero_le _⟩)
  have hM := hM.put (sc' := (upd sc 0 0)) hO hq1
  have hI : MI (upd sc 0 0) ar h0 h1 fx ts B := hI
  refine lv_iload_n hx hb dX5_roll_5 rfl (lv_at hl 1 rfl) ?_
  refine pS hx hb hml hts hown hE kwX5_89 (c_isDay E d H1) (Nat.le_of_ble_eq_true rfl) rfl hl.1 rfl (Nat.le_of_ble_eq_true rfl) (by omega) (by omega) dX5_roll_6 ?_
  cases c3 : inB d 0 3000 with
  | false =>
    have hcd : cdDay d = 1 := by unfold cdDay; rw [c3]; rfl
    refine lv_if_eq (tgt := 20) hx hb dX5_roll_9 (by decide) (fun c4 => ?_) (fun c4 => ?_)
    rotate_left
    · exact absurd (by decide) c4
    refine lv_aload_n hx hb dX5_roll_20 rfl (lv_at hl 0 rfl) ?_
    refine lv_iconst (v := 1) hx hb dX5_roll_21 (by decide) ?_
    have hF0 := hF
    have hza := hz1
    refine gV hx hb hml hts hown hB hE hS kwX5_96 (c_mfails E ow x (upd sc 0 0) ad ar h0 h1 fx ts B 1 H1 hM hI hV) hO rfl (Nat.le_of_ble_eq_true rfl) rfl hl.1 rfl (Nat.le_of_ble_eq_true rfl) (by omega) (by omega) dX5_roll_22 (fun H2 L2 hG hz2 hE hS => ?_)
    obtain ⟨hw, hF2, hz9⟩ := hG
    exact cI hx hb hr hlk hB hS (by omega) (by omega) (⟨by rw [hcd]; rfl, by rw [hcd]; exact hw, hF0.tr hF2 (fun _ _ h => h), by omega⟩) dX5_roll_25
  | true =>
    have hcd : cdDay d = 0 := by unfold cdDay; rw [c3]; rfl
    obtain ⟨j, hj, ej⟩ := inB_nI (n := 3000) c3
    subst ej
    refine lv_if_eq (tgt := 20) hx hb dX5_roll_9 (by decide) (fun c4 => ?_) (fun c4 => ?_)
    · exact absurd c4 (by decide)
    refine lv_aload_n hx hb dX5_roll_12 rfl (lv_at hl 0 rfl) ?_
    refine lv_iload_n hx hb dX5_roll_13 rfl (lv_at hl 1 rfl) ?_
    rw [nI_clamp (by omega)]
    refine pV hx hb hml hts hown hE kwX5_92 (c_rolled E x (upd sc 0 0) ad ar h0 h1 fx ts B j H1 hM.1 hI hV (by omega)) hO rfl (Nat.le_of_ble_eq_true rfl) rfl hl.1 rfl (Nat.le_of_ble_eq_true rfl) (by omega) (by omega) dX5_roll_14 ?_
    refine lv_goto (tgt := 25) hx hb dX5_roll_17 (by decide) ?_
    exact cI hx hb hr hlk hB hS (by omega) (by omega) (⟨by rw [hcd]; rfl, ⟨(upd sc 0 0), ad, ar, hM, hI, by rw [hcd]; rfl⟩, hF, by omega⟩) dX5_roll_25

set_option maxRecDepth 100000 in
set_option maxHeartbeats 4000000 in
/-- rateFor -/
theorem c_mratefor (E : ET) (ow : Nat → Nat × Nat) (x : Nat) (sc : Nat → Int32) (ad : Nat → Nat) (ar : Nat → Nat → Int32) (h0 h1 fx : Dy) (ts : List TR) (B : BK) (d : Int32) (H : Heap) (hM : MR E ow x sc ad ar H) (hI : MI sc ar h0 h1 fx ts B) (hV : SV h0 h1 fx ts)  : Con E yX5_rateFor cX5_rateFor 2 (some FieldType.int) 5 0 0 [.ref x, .int d] H (o1 (some (.int (if cdDay d = 0 then dLast fx d 0 else 0))) (fun H' => MO E ow x h0 h1 fx ts B (cdDay d) H H')) := by
  refine Con.of (C := RX5) rfl (by decide +kernel) (Nat.le_of_ble_eq_true rfl) ?_
  intro p e s m below meth co ls hx hb hr hlk hml hown hts hin hE hH hS hl
  have hl : lv_has ls 2 [(0, .ref x), (1, .int d)] := hl
  have hB : eB E ≤ s.heap.size := by rw [hH]; exact hE.2.1
  have hO := hM.1.1
  have htn := hV.tn
  have hn6 := hI.2.2.2.2.1
  have hF : FR (fun z => (ow z).1 = 4 ∧ (ow z).2 ≤ 23) H H := FR.rf
  refine lv_aload_n hx hb dX5_rateFor_0 rfl (lv_at hl 0 rfl) ?_
  refine lv_iconst (v := 0) hx hb dX5_rateFor_1 (by decide) ?_
  refine pf hx hb hts hown hE hS pkX5_71 rfl hO hM.2.1.2 rfl rfl (Nat.le_of_ble_eq_true rfl) dX5_rateFor_2 (fun H1 L1 hO1 hz1 hq1 hE hS => ?_)
  have hO : OB E 6 [.int 0, .ref (ad 1), .ref (ad 2), .ref (ad 3), .ref (ad 4), .int (sc 5), .int (sc 6), .ref (ad 7), .ref (ad 8), .ref (ad 9), .ref (ad 10), .ref (ad 11), .ref (ad 12), .ref (ad 13), .ref (ad 14), .ref (ad 15), .ref (ad 16), .int (sc 17), .ref (ad 18), .ref (ad 19), .ref (ad 20), .ref (ad 21), .ref (ad 22), .ref (ad 23)] x H1 := hO1
  have hF := hF.put hz1 hq1 (fun _ => ⟨by rw [hM.2.1.1], by rw [hM.2.1.1]; exact Nat.zero_le _⟩)
  have hM := hM.put (sc' := (upd sc 0 0)) hO hq1
  have hI : MI (upd sc 0 0) ar h0 h1 fx ts B := hI
  refine lv_iload_n hx hb dX5_rateFor_5 rfl (lv_at hl 1 rfl) ?_
  refine pS hx hb hml hts hown hE kwX5_89 (c_isDay E d H1) (Nat.le_of_ble_eq_true rfl) rfl hl.1 rfl (Nat.le_of_ble_eq_true rfl) (by omega) (by omega) dX5_rateFor_6 ?_
  cases c3 : inB d 0 3000 with
  | false =>
    have hcd : cdDay d = 1 := by unfold cdDay; rw [c3]; rfl
    refine lv_if_eq (tgt := 20) hx hb dX5_rateFor_9 (by decide) (fun c4 => ?_) (fun c4 => ?_)
    rotate_left
    · exact absurd (by decide) c4
    refine lv_aload_n hx hb dX5_rateFor_20 rfl (lv_at hl 0 rfl) ?_
    refine lv_iconst (v := 1) hx hb dX5_rateFor_21 (by decide) ?_
    have hF0 := hF
    have hza := hz1
    refine gV hx hb hml hts hown hB hE hS kwX5_96 (c_mfails E ow x (upd sc 0 0) ad ar h0 h1 fx ts B 1 H1 hM hI hV) hO rfl (Nat.le_of_ble_eq_true rfl) rfl hl.1 rfl (Nat.le_of_ble_eq_true rfl) (by omega) (by omega) dX5_rateFor_22 (fun H2 L2 hG hz2 hE hS => ?_)
    obtain ⟨hw, hF2, hz9⟩ := hG
    exact cI hx hb hr hlk hB hS (by omega) (by omega) (⟨by rw [hcd]; rfl, by rw [hcd]; exact hw, hF0.tr hF2 (fun _ _ h => h), by omega⟩) dX5_rateFor_25
  | true =>
    have hcd : cdDay d = 0 := by unfold cdDay; rw [c3]; rfl
    obtain ⟨j, hj, ej⟩ := inB_nI (n := 3000) c3
    subst ej
    refine lv_if_eq (tgt := 20) hx hb dX5_rateFor_9 (by decide) (fun c4 => ?_) (fun c4 => ?_)
    · exact absurd c4 (by decide)
    refine lv_aload_n hx hb dX5_rateFor_12 rfl (lv_at hl 0 rfl) ?_
    refine lv_iload_n hx hb dX5_rateFor_13 rfl (lv_at hl 1 rfl) ?_
    refine pV hx hb hml hts hown hE kwX5_102 (c_mrate E x (upd sc 0 0) ad ar h0 h1 fx ts B j H1 hM.1 hI hV (by omega)) hO rfl (Nat.le_of_ble_eq_true rfl) rfl hl.1 rfl (Nat.le_of_ble_eq_true rfl) (by omega) (by omega) dX5_rateFor_14 ?_
    refine lv_goto (tgt := 25) hx hb dX5_rateFor_17 (by decide) ?_
    exact cI hx hb hr hlk hB hS (by omega) (by omega) (⟨by rw [hcd]; rfl, ⟨(upd sc 0 0), ad, ar, hM, hI, by rw [hcd]; rfl⟩, hF, by omega⟩) dX5_rateFor_25

set_option maxRecDepth 100000 in
set_option maxHeartbeats 4000000 in
/-- partyOn -/
theorem c_mpartyon (E : ET) (ow : Nat → Nat × Nat) (x : Nat) (sc : Nat → Int32) (ad : Nat → Nat) (ar : Nat → Nat → Int32) (h0 h1 fx : Dy) (ts : List TR) (B : BK) (t d : Int32) (H : Heap) (hM : MR E ow x sc ad ar H) (hI : MI sc ar h0 h1 fx ts B) (hV : SV h0 h1 fx ts)  : Con E yX5_partyOn cX5_partyOn 3 (some FieldType.int) 5 0 0 [.ref x, .int t, .int d] H (o1 (some (.int (if cdPO ts t d = 0 then ((trd ts t).elim 0 (fun tr => hldS tr.1 tr.2.2 d)) else 0))) (fun H' => MO E ow x h0 h1 fx ts B (cdPO ts t d) H H')) := by
  refine Con.of (C := RX5) rfl (by decide +kernel) (Nat.le_of_ble_eq_true rfl) ?_
  intro p e s m below meth co ls hx hb hr hlk hml hown hts hin hE hH hS hl
  have hl : lv_has ls 3 [(0, .ref x), (1, .int t), (2, .int d)] := hl
  have hB : eB E ≤ s.heap.size := by rw [hH]; exact hE.2.1
  have hO := hM.1.1
  have htn := hV.tn
  have hn6 := hI.2.2.2.2.1
  have hF : FR (fun z => (ow z).1 = 4 ∧ (ow z).2 ≤ 23) H H := FR.rf
  refine lv_aload_n hx hb dX5_partyOn_0 rfl (lv_at hl 0 rfl) ?_
  refine lv_aload_n hx hb dX5_partyOn_1 rfl (lv_at hl 0 rfl) ?_
  refine lv_iload_n hx hb dX5_partyOn_2 rfl (lv_at hl 1 rfl) ?_
  refine pV hx hb hml hts hown hE kwX5_82 (c_isTrade E x sc ad ar t H hM.1) hO rfl (Nat.le_of_ble_eq_true rfl) rfl hl.1 rfl (Nat.le_of_ble_eq_true rfl) (by omega) (by omega) dX5_partyOn_3 ?_
  rw [show inB t 0 (sc 6 - 1) = inB t 0 (nI ts.length - 1) by rw [← hn6]]
  cases c1 : inB t 0 (nI ts.length - 1) with
  | false =>
    have etr : trd ts t = none := trd_no (fun ⟨i, hi, e⟩ => by rw [(inB_pred (h := by omega)).mpr ⟨i, hi, e⟩] at c1; cases c1)
    have hcd : cdPO ts t d = 1 := by unfold cdPO; rw [etr]; rfl
    refine lv_if_ne (tgt := 13) hx hb dX5_partyOn_6 (by decide) (fun c2 => ?_) (fun c2 => ?_)
    · exact absurd (by decide) c2
    refine lv_iconst (v := 1) hx hb dX5_partyOn_9 (by decide) ?_
    refine lv_goto (tgt := 25) hx hb dX5_partyOn_10 (by decide) ?_
    refine pf hx hb hts hown hE hS pkX5_71 rfl hO hM.2.1.2 rfl rfl (Nat.le_of_ble_eq_true rfl) dX5_partyOn_25 (fun H1 L1 hO1 hz1 hq1 hE hS => ?_)
    have hO : OB E 6 [.int 1, .ref (ad 1), .ref (ad 2), .ref (ad 3), .ref (ad 4), .int (sc 5), .int (sc 6), .ref (ad 7), .ref (ad 8), .ref (ad 9), .ref (ad 10), .ref (ad 11), .ref (ad 12), .ref (ad 13), .ref (ad 14), .ref (ad 15), .ref (ad 16), .int (sc 17), .ref (ad 18), .ref (ad 19), .ref (ad 20), .ref (ad 21), .ref (ad 22), .ref (ad 23)] x H1 := hO1
    have hF := hF.put hz1 hq1 (fun _ => ⟨by rw [hM.2.1.1], by rw [hM.2.1.1]; exact Nat.zero_le _⟩)
    have hM := hM.put (sc' := (upd sc 0 1)) hO hq1
    have hI : MI (upd sc 0 1) ar h0 h1 fx ts B := hI
    refine lv_aload_n hx hb dX5_partyOn_28 rfl (lv_at hl 0 rfl) ?_
    refine gf hx hb hts hown hE lkX5_71 hO rfl dX5_partyOn_29 ?_
    refine lv_if_le (tgt := 39) hx hb dX5_partyOn_32 (by decide) (fun c5 => ?_) (fun c5 => ?_)
    · exact absurd c5 (by decide)
    refine lv_iconst (v := 0) hx hb dX5_partyOn_35 (by decide) ?_
    refine lv_goto (tgt := 45) hx hb dX5_partyOn_36 (by decide) ?_
    exact cI hx hb hr hlk hB hS (by omega) (by omega) (⟨by rw [hcd]; rfl, ⟨(upd sc 0 1), ad, ar, hM, hI, by rw [hcd]; rfl⟩, hF, by omega⟩) dX5_partyOn_45
  | true =>
    obtain ⟨i, hi, et⟩ := (inB_pred (n := ts.length) (h := by omega)).mp c1
    obtain ⟨tr, ht⟩ := getq hi
    have etr : trd ts t = some tr := by rw [et, trd_nI (by omega)]; exact ht
    have hi10 : i < 10 := by omega
    refine lv_if_ne (tgt := 13) hx hb dX5_partyOn_6 (by decide) (fun c2 => ?_) (fun c2 => ?_)
    rotate_left
    · exact absurd c2 (by decide)
    refine lv_iload_n hx hb dX5_partyOn_13 rfl (lv_at hl 2 rfl) ?_
    refine pS hx hb hml hts hown hE kwX5_89 (c_isDay E d H) (Nat.le_of_ble_eq_true rfl) rfl hl.1 rfl (Nat.le_of_ble_eq_true rfl) (by omega) (by omega) dX5_partyOn_14 ?_
    cases c3 : inB d 0 3000 with
    | false =>
      have hcd : cdPO ts t d = 2 := by unfold cdPO; rw [etr, c3]; rfl
      refine lv_if_eq (tgt := 24) hx hb dX5_partyOn_17 (by decide) (fun c4 => ?_) (fun c4 => ?_)
      rotate_left
      · exact absurd (by decide) c4
      refine lv_iconst (v := 2) hx hb dX5_partyOn_24 (by decide) ?_
      refine pf hx hb hts hown hE hS pkX5_71 rfl hO hM.2.1.2 rfl rfl (Nat.le_of_ble_eq_true rfl) dX5_partyOn_25 (fun H1 L1 hO1 hz1 hq1 hE hS => ?_)
      have hO : OB E 6 [.int 2, .ref (ad 1), .ref (ad 2), .ref (ad 3), .ref (ad 4), .int (sc 5), .int (sc 6), .ref (ad 7), .ref (ad 8), .ref (ad 9), .ref (ad 10), .ref (ad 11), .ref (ad 12), .ref (ad 13), .ref (ad 14), .ref (ad 15), .ref (ad 16), .int (sc 17), .ref (ad 18), .ref (ad 19), .ref (ad 20), .ref (ad 21), .ref (ad 22), .ref (ad 23)] x H1 := hO1
      have hF := hF.put hz1 hq1 (fun _ => ⟨by rw [hM.2.1.1], by rw [hM.2.1.1]; exact Nat.zero_le _⟩)
      have hM := hM.put (sc' := (upd sc 0 2)) hO hq1
      have hI : MI (upd sc 0 2) ar h0 h1 fx ts B := hI
      refine lv_aload_n hx hb dX5_partyOn_28 rfl (lv_at hl 0 rfl) ?_
      refine gf hx hb hts hown hE lkX5_71 hO rfl dX5_partyOn_29 ?_
      refine lv_if_le (tgt := 39) hx hb dX5_partyOn_32 (by decide) (fun c5 => ?_) (fun c5 => ?_)
      · exact absurd c5 (by decide)
      refine lv_iconst (v := 0) hx hb dX5_partyOn_35 (by decide) ?_
      refine lv_goto (tgt := 45) hx hb dX5_partyOn_36 (by decide) ?_
      exact cI hx hb hr hlk hB hS (by omega) (by omega) (⟨by rw [hcd]; rfl, ⟨(upd sc 0 2), ad, ar, hM, hI, by rw [hcd]; rfl⟩, hF, by omega⟩) dX5_partyOn_45
    | true =>
      have hcd : cdPO ts t d = 0 := by unfold cdPO; rw [etr, c3]; rfl
      refine lv_if_eq (tgt := 24) hx hb dX5_partyOn_17 (by decide) (fun c4 => ?_) (fun c4 => ?_)
      · exact absurd c4 (by decide)
      refine lv_iconst (v := 0) hx hb dX5_partyOn_20 (by decide) ?_
      refine lv_goto (tgt := 25) hx hb dX5_partyOn_21 (by decide) ?_
      refine pf hx hb hts hown hE hS pkX5_71 rfl hO hM.2.1.2 rfl rfl (Nat.le_of_ble_eq_true rfl) dX5_partyOn_25 (fun H1 L1 hO1 hz1 hq1 hE hS => ?_)
      have hO : OB E 6 [.int 0, .ref (ad 1), .ref (ad 2), .ref (ad 3), .ref (ad 4), .int (sc 5), .int (sc 6), .ref (ad 7), .ref (ad 8), .ref (ad 9), .ref (ad 10), .ref (ad 11), .ref (ad 12), .ref (ad 13), .ref (ad 14), .ref (ad 15), .ref (ad 16), .int (sc 17), .ref (ad 18), .ref (ad 19), .ref (ad 20), .ref (ad 21), .ref (ad 22), .ref (ad 23)] x H1 := hO1
      have hF := hF.put hz1 hq1 (fun _ => ⟨by rw [hM.2.1.1], by rw [hM.2.1.1]; exact Nat.zero_le _⟩)
      have hM := hM.put (sc' := (upd sc 0 0)) hO hq1
      have hI : MI (upd sc 0 0) ar h0 h1 fx ts B := hI
      refine lv_aload_n hx hb dX5_partyOn_28 rfl (lv_at hl 0 rfl) ?_
      refine gf hx hb hts hown hE lkX5_71 hO rfl dX5_partyOn_29 ?_
      refine lv_if_le (tgt := 39) hx hb dX5_partyOn_32 (by decide) (fun c5 => ?_) (fun c5 => ?_)
      rotate_left
      · exact absurd (by decide) c5
      refine lv_aload_n hx hb dX5_partyOn_39 rfl (lv_at hl 0 rfl) ?_
      refine lv_iload_n hx hb dX5_partyOn_40 rfl (lv_at hl 1 rfl) ?_
      refine lv_iload_n hx hb dX5_partyOn_41 rfl (lv_at hl 2 rfl) ?_
      have hcc := c_mparty E x (upd sc 0 0) ad ar h0 h1 fx ts B i tr d H1 hM.1 hI hV ht
      rw [← et] at hcc
      refine pV hx hb hml hts hown hE kwX5_125 hcc hO rfl (Nat.le_of_ble_eq_true rfl) rfl hl.1 rfl (Nat.le_of_ble_eq_true rfl) (by omega) (by omega) dX5_partyOn_42 ?_
      exact cI hx hb hr hlk hB hS (by omega) (by omega) (⟨by rw [hcd, etr]; rfl, ⟨(upd sc 0 0), ad, ar, hM, hI, by rw [hcd]; rfl⟩, hF, by omega⟩) dX5_partyOn_45

set_option maxRecDepth 100000 in
set_option maxHeartbeats 4000000 in
/-- cash -/
theorem c_mcash (E : ET) (ow : Nat → Nat × Nat) (x : Nat) (sc : Nat → Int32) (ad : Nat → Nat) (ar : Nat → Nat → Int32) (h0 h1 fx : Dy) (ts : List TR) (B : BK) (pa d : Int32) (H : Heap) (hM : MR E ow x sc ad ar H) (hI : MI sc ar h0 h1 fx ts B) (hV : SV h0 h1 fx ts)  : Con E yX5_cash cX5_cash 3 (some FieldType.long) 8 0 0 [.ref x, .int pa, .int d] H (o1 (some (.long (if cdCash pa d = 0 then sumS h0 h1 fx pa d d 0 ts else 0))) (fun H' => MO E ow x h0 h1 fx ts B (cdCash pa d) H H')) := by
  refine Con.of (C := RX5) rfl (by decide +kernel) (Nat.le_of_ble_eq_true rfl) ?_
  intro p e s m below meth co ls hx hb hr hlk hml hown hts hin hE hH hS hl
  have hl : lv_has ls 3 [(0, .ref x), (1, .int pa), (2, .int d)] := hl
  have hB : eB E ≤ s.heap.size := by rw [hH]; exact hE.2.1
  have hO := hM.1.1
  have htn := hV.tn
  have hn6 := hI.2.2.2.2.1
  have hF : FR (fun z => (ow z).1 = 4 ∧ (ow z).2 ≤ 23) H H := FR.rf
  refine lv_aload_n hx hb dX5_cash_0 rfl (lv_at hl 0 rfl) ?_
  refine lv_iload_n hx hb dX5_cash_1 rfl (lv_at hl 1 rfl) ?_
  refine pS hx hb hml hts hown hE kwX5_105 (c_isParty E pa H) (Nat.le_of_ble_eq_true rfl) rfl hl.1 rfl (Nat.le_of_ble_eq_true rfl) (by omega) (by omega) dX5_cash_2 ?_
  cases c3 : inB pa 0 3 with
  | false =>
    have hcd : cdCash pa d = 1 := by unfold cdCash; rw [c3]; rfl
    refine lv_if_ne (tgt := 12) hx hb dX5_cash_5 (by decide) (fun c4 => ?_) (fun c4 => ?_)
    · exact absurd (by decide) c4
    refine lv_iconst (v := 1) hx hb dX5_cash_8 (by decide) ?_
    refine lv_goto (tgt := 28) hx hb dX5_cash_9 (by decide) ?_
    refine pf hx hb hts hown hE hS pkX5_71 rfl hO hM.2.1.2 rfl rfl (Nat.le_of_ble_eq_true rfl) dX5_cash_28 (fun H1 L1 hO1 hz1 hq1 hE hS => ?_)
    have hO : OB E 6 [.int 1, .ref (ad 1), .ref (ad 2), .ref (ad 3), .ref (ad 4), .int (sc 5), .int (sc 6), .ref (ad 7), .ref (ad 8), .ref (ad 9), .ref (ad 10), .ref (ad 11), .ref (ad 12), .ref (ad 13), .ref (ad 14), .ref (ad 15), .ref (ad 16), .int (sc 17), .ref (ad 18), .ref (ad 19), .ref (ad 20), .ref (ad 21), .ref (ad 22), .ref (ad 23)] x H1 := hO1
    have hF := hF.put hz1 hq1 (fun _ => ⟨by rw [hM.2.1.1], by rw [hM.2.1.1]; exact Nat.zero_le _⟩)
    have hM := hM.put (sc' := (upd sc 0 1)) hO hq1
    have hI : MI (upd sc 0 1) ar h0 h1 fx ts B := hI
    refine lv_aload_n hx hb dX5_cash_31 rfl (lv_at hl 0 rfl) ?_
    refine gf hx hb hts hown hE lkX5_71 hO rfl dX5_cash_32 ?_
    refine lv_if_le (tgt := 42) hx hb dX5_cash_35 (by decide) (fun c9 => ?_) (fun c9 => ?_)
    · exact absurd c9 (by decide)
    refine lv_lconst (v := 0) hx hb dX5_cash_38 (by decide) ?_
    refine lv_goto (tgt := 49) hx hb dX5_cash_39 (by decide) ?_
    exact cL hx hb hr hlk hB hS (by omega) (by omega) (⟨by rw [hcd]; rfl, ⟨(upd sc 0 1), ad, ar, hM, hI, by rw [hcd]; rfl⟩, hF, by omega⟩) dX5_cash_49
  | true =>
    refine lv_if_ne (tgt := 12) hx hb dX5_cash_5 (by decide) (fun c4 => ?_) (fun c4 => ?_)
    rotate_left
    · exact absurd c4 (by decide)
    refine lv_iload_n hx hb dX5_cash_12 rfl (lv_at hl 2 rfl) ?_
    refine lv_iconst (v := 0) hx hb dX5_cash_13 (by decide) ?_
    refine lv_sipush (v := 3100) hx hb dX5_cash_14 (by decide) ?_
    refine pS hx hb hml hts hown hE kwX5_75 (c_in E d 0 3100 H) (Nat.le_of_ble_eq_true rfl) rfl hl.1 rfl (Nat.le_of_ble_eq_true rfl) (by omega) (by omega) dX5_cash_17 ?_
    cases c6 : inB d 0 3100 with
    | false =>
      have hcd : cdCash pa d = 2 := by unfold cdCash; rw [c3, c6]; rfl
      refine lv_if_eq (tgt := 27) hx hb dX5_cash_20 (by decide) (fun c7 => ?_) (fun c7 => ?_)
      rotate_left
      · exact absurd (by decide) c7
      refine lv_iconst (v := 2) hx hb dX5_cash_27 (by decide) ?_
      refine pf hx hb hts hown hE hS pkX5_71 rfl hO hM.2.1.2 rfl rfl (Nat.le_of_ble_eq_true rfl) dX5_cash_28 (fun H1 L1 hO1 hz1 hq1 hE hS => ?_)
      have hO : OB E 6 [.int 2, .ref (ad 1), .ref (ad 2), .ref (ad 3), .ref (ad 4), .int (sc 5), .int (sc 6), .ref (ad 7), .ref (ad 8), .ref (ad 9), .ref (ad 10), .ref (ad 11), .ref (ad 12), .ref (ad 13), .ref (ad 14), .ref (ad 15), .ref (ad 16), .int (sc 17), .ref (ad 18), .ref (ad 19), .ref (ad 20), .ref (ad 21), .ref (ad 22), .ref (ad 23)] x H1 := hO1
      have hF := hF.put hz1 hq1 (fun _ => ⟨by rw [hM.2.1.1], by rw [hM.2.1.1]; exact Nat.zero_le _⟩)
      have hM := hM.put (sc' := (upd sc 0 2)) hO hq1
      have hI : MI (upd sc 0 2) ar h0 h1 fx ts B := hI
      refine lv_aload_n hx hb dX5_cash_31 rfl (lv_at hl 0 rfl) ?_
      refine gf hx hb hts hown hE lkX5_71 hO rfl dX5_cash_32 ?_
      refine lv_if_le (tgt := 42) hx hb dX5_cash_35 (by decide) (fun c9 => ?_) (fun c9 => ?_)
      · exact absurd c9 (by decide)
      refine lv_lconst (v := 0) hx hb dX5_cash_38 (by decide) ?_
      refine lv_goto (tgt := 49) hx hb dX5_cash_39 (by decide) ?_
      exact cL hx hb hr hlk hB hS (by omega) (by omega) (⟨by rw [hcd]; rfl, ⟨(upd sc 0 2), ad, ar, hM, hI, by rw [hcd]; rfl⟩, hF, by omega⟩) dX5_cash_49
    | true =>
      have hcd : cdCash pa d = 0 := by unfold cdCash; rw [c3, c6]; rfl
      refine lv_if_eq (tgt := 27) hx hb dX5_cash_20 (by decide) (fun c7 => ?_) (fun c7 => ?_)
      · exact absurd c7 (by decide)
      refine lv_iconst (v := 0) hx hb dX5_cash_23 (by decide) ?_
      refine lv_goto (tgt := 28) hx hb dX5_cash_24 (by decide) ?_
      refine pf hx hb hts hown hE hS pkX5_71 rfl hO hM.2.1.2 rfl rfl (Nat.le_of_ble_eq_true rfl) dX5_cash_28 (fun H1 L1 hO1 hz1 hq1 hE hS => ?_)
      have hO : OB E 6 [.int 0, .ref (ad 1), .ref (ad 2), .ref (ad 3), .ref (ad 4), .int (sc 5), .int (sc 6), .ref (ad 7), .ref (ad 8), .ref (ad 9), .ref (ad 10), .ref (ad 11), .ref (ad 12), .ref (ad 13), .ref (ad 14), .ref (ad 15), .ref (ad 16), .int (sc 17), .ref (ad 18), .ref (ad 19), .ref (ad 20), .ref (ad 21), .ref (ad 22), .ref (ad 23)] x H1 := hO1
      have hF := hF.put hz1 hq1 (fun _ => ⟨by rw [hM.2.1.1], by rw [hM.2.1.1]; exact Nat.zero_le _⟩)
      have hM := hM.put (sc' := (upd sc 0 0)) hO hq1
      have hI : MI (upd sc 0 0) ar h0 h1 fx ts B := hI
      refine lv_aload_n hx hb dX5_cash_31 rfl (lv_at hl 0 rfl) ?_
      refine gf hx hb hts hown hE lkX5_71 hO rfl dX5_cash_32 ?_
      refine lv_if_le (tgt := 42) hx hb dX5_cash_35 (by decide) (fun c9 => ?_) (fun c9 => ?_)
      rotate_left
      · exact absurd (by decide) c9
      refine lv_aload_n hx hb dX5_cash_42 rfl (lv_at hl 0 rfl) ?_
      refine lv_iload_n hx hb dX5_cash_43 rfl (lv_at hl 1 rfl) ?_
      refine lv_iload_n hx hb dX5_cash_44 rfl (lv_at hl 2 rfl) ?_
      refine lv_iload_n hx hb dX5_cash_45 rfl (lv_at hl 2 rfl) ?_
      refine pV hx hb hml hts hown hE kwX5_160 (c_msum E x (upd sc 0 0) ad ar h0 h1 fx ts B pa d d H1 hM.1 hI hV) hO rfl (Nat.le_of_ble_eq_true rfl) rfl hl.1 rfl (Nat.le_of_ble_eq_true rfl) (by omega) (by omega) dX5_cash_46 ?_
      exact cL hx hb hr hlk hB hS (by omega) (by omega) (⟨by rw [hcd]; rfl, ⟨(upd sc 0 0), ad, ar, hM, hI, by rw [hcd]; rfl⟩, hF, by omega⟩) dX5_cash_49

set_option maxRecDepth 100000 in
set_option maxHeartbeats 4000000 in
/-- barsDays -/
theorem c_mbars (E : ET) (x : Nat) (pa d1 d2 : Int32) (H : Heap) (fs : List Value) (hO : OB E 6 fs x H) : PCon E yX5_barsDays cX5_barsDays 5 (some FieldType.int) 4 [.ref x, .int pa, .int d1, .int d2] H (some (.int (nI (cdSpan pa d1 d2)))) := by
  refine PCon.of (C := RX5) rfl (by decide +kernel) (Nat.le_of_ble_eq_true rfl) ?_
  intro p e s m below meth co ls hx hb hr hlk hml hown hts hE hH hl
  have hl : lv_has ls 5 [(0, .ref x), (1, .int pa), (2, .int d1), (3, .int d2)] := hl
  refine lv_iload_n hx hb dX5_barsDays_0 rfl (lv_at hl 2 rfl) ?_
  refine lv_iconst (v := 0) hx hb dX5_barsDays_1 (by decide) ?_
  refine lv_sipush (v := 3100) hx hb dX5_barsDays_2 (by decide) ?_
  refine pS hx hb hml hts hown hE kwX5_75 (c_in E d1 0 3100 H) (Nat.le_of_ble_eq_true rfl) rfl hl.1 rfl (Nat.le_of_ble_eq_true rfl) (Nat.le_refl _) (Nat.le_refl _) dX5_barsDays_5 ?_
  cases c1 : inB d1 0 3100 with
  | false =>
    refine lv_if_eq (tgt := 36) hx hb dX5_barsDays_8 (by decide) (fun c2 => ?_) (fun c2 => ?_)
    rotate_left
    · exact absurd (by decide) c2
    refine lv_iconst (v := 0) hx hb dX5_barsDays_36 (by decide) ?_
    refine lv_istore (lv' := [(4, .int 0), (0, .ref x), (1, .int pa), (2, .int d1), (3, .int d2)]) hx hb dX5_barsDays_37 hl (by decide) rfl (fun ls hl => ?_)
    refine lv_iload_n hx hb dX5_barsDays_39 rfl (lv_at hl 2 rfl) ?_
    refine pS hx hb hml hts hown hE kwX5_105 (c_isParty E pa H) (Nat.le_of_ble_eq_true rfl) rfl hl.1 rfl (Nat.le_of_ble_eq_true rfl) (Nat.le_refl _) (Nat.le_refl _) dX5_barsDays_40 ?_
    cases c9 : inB pa 0 3 with
    | false =>
      refine lv_if_ne (tgt := 50) hx hb dX5_barsDays_43 (by decide) (fun c8 => ?_) (fun c8 => ?_)
      · exact absurd (by decide) c8
      refine lv_iconst (v := 1) hx hb dX5_barsDays_46 (by decide) ?_
      refine lv_goto (tgt := 60) hx hb dX5_barsDays_47 (by decide) ?_
      exact pI hx hb hr hlk hH (by unfold cdSpan; rw [c9]; rfl) dX5_barsDays_60
    | true =>
      refine lv_if_ne (tgt := 50) hx hb dX5_barsDays_43 (by decide) (fun c8 => ?_) (fun c8 => ?_)
      rotate_left
      · exact absurd c8 (by decide)
      refine lv_iload hx hb dX5_barsDays_50 (lv_at hl 0 rfl) ?_
      refine lv_if_eq (tgt := 59) hx hb dX5_barsDays_52 (by decide) (fun c7 => ?_) (fun c7 => ?_)
      rotate_left
      · exact absurd (by decide) c7
      refine lv_iconst (v := 2) hx hb dX5_barsDays_59 (by decide) ?_
      exact pI hx hb hr hlk hH (by unfold cdSpan; rw [c9, if_neg (by decide), if_neg (fun q => by rw [c1] at q; cases q.1)]; rfl) dX5_barsDays_60
  | true =>
    refine lv_if_eq (tgt := 36) hx hb dX5_barsDays_8 (by decide) (fun c2 => ?_) (fun c2 => ?_)
    · exact absurd c2 (by decide)
    refine lv_iload_n hx hb dX5_barsDays_11 rfl (lv_at hl 3 rfl) ?_
    refine lv_iload_n hx hb dX5_barsDays_12 rfl (lv_at hl 2 rfl) ?_
    refine lv_icmp_lt (tgt := 36) hx hb dX5_barsDays_13 (by decide) (fun c3 => ?_) (fun c3 => ?_)
    · refine lv_iconst (v := 0) hx hb dX5_barsDays_36 (by decide) ?_
      refine lv_istore (lv' := [(4, .int 0), (0, .ref x), (1, .int pa), (2, .int d1), (3, .int d2)]) hx hb dX5_barsDays_37 hl (by decide) rfl (fun ls hl => ?_)
      refine lv_iload_n hx hb dX5_barsDays_39 rfl (lv_at hl 2 rfl) ?_
      refine pS hx hb hml hts hown hE kwX5_105 (c_isParty E pa H) (Nat.le_of_ble_eq_true rfl) rfl hl.1 rfl (Nat.le_of_ble_eq_true rfl) (Nat.le_refl _) (Nat.le_refl _) dX5_barsDays_40 ?_
      cases c9 : inB pa 0 3 with
      | false =>
        refine lv_if_ne (tgt := 50) hx hb dX5_barsDays_43 (by decide) (fun c8 => ?_) (fun c8 => ?_)
        · exact absurd (by decide) c8
        refine lv_iconst (v := 1) hx hb dX5_barsDays_46 (by decide) ?_
        refine lv_goto (tgt := 60) hx hb dX5_barsDays_47 (by decide) ?_
        exact pI hx hb hr hlk hH (by unfold cdSpan; rw [c9]; rfl) dX5_barsDays_60
      | true =>
        refine lv_if_ne (tgt := 50) hx hb dX5_barsDays_43 (by decide) (fun c8 => ?_) (fun c8 => ?_)
        rotate_left
        · exact absurd c8 (by decide)
        refine lv_iload hx hb dX5_barsDays_50 (lv_at hl 0 rfl) ?_
        refine lv_if_eq (tgt := 59) hx hb dX5_barsDays_52 (by decide) (fun c7 => ?_) (fun c7 => ?_)
        rotate_left
        · exact absurd (by decide) c7
        refine lv_iconst (v := 2) hx hb dX5_barsDays_59 (by decide) ?_
        exact pI hx hb hr hlk hH (by unfold cdSpan; rw [c9, if_neg (by decide), if_neg (fun q => span_no1 c3 q.2)]; rfl) dX5_barsDays_60
    · refine lv_iload_n hx hb dX5_barsDays_16 rfl (lv_at hl 3 rfl) ?_
      refine lv_sipush (v := 3100) hx hb dX5_barsDays_17 (by decide) ?_
      refine lv_icmp_gt (tgt := 36) hx hb dX5_barsDays_20 (by decide) (fun c4 => ?_) (fun c4 => ?_)
      · refine lv_iconst (v := 0) hx hb dX5_barsDays_36 (by decide) ?_
        refine lv_istore (lv' := [(4, .int 0), (0, .ref x), (1, .int pa), (2, .int d1), (3, .int d2)]) hx hb dX5_barsDays_37 hl (by decide) rfl (fun ls hl => ?_)
        refine lv_iload_n hx hb dX5_barsDays_39 rfl (lv_at hl 2 rfl) ?_
        refine pS hx hb hml hts hown hE kwX5_105 (c_isParty E pa H) (Nat.le_of_ble_eq_true rfl) rfl hl.1 rfl (Nat.le_of_ble_eq_true rfl) (Nat.le_refl _) (Nat.le_refl _) dX5_barsDays_40 ?_
        cases c9 : inB pa 0 3 with
        | false =>
          refine lv_if_ne (tgt := 50) hx hb dX5_barsDays_43 (by decide) (fun c8 => ?_) (fun c8 => ?_)
          · exact absurd (by decide) c8
          refine lv_iconst (v := 1) hx hb dX5_barsDays_46 (by decide) ?_
          refine lv_goto (tgt := 60) hx hb dX5_barsDays_47 (by decide) ?_
          exact pI hx hb hr hlk hH (by unfold cdSpan; rw [c9]; rfl) dX5_barsDays_60
        | true =>
          refine lv_if_ne (tgt := 50) hx hb dX5_barsDays_43 (by decide) (fun c8 => ?_) (fun c8 => ?_)
          rotate_left
          · exact absurd c8 (by decide)
          refine lv_iload hx hb dX5_barsDays_50 (lv_at hl 0 rfl) ?_
          refine lv_if_eq (tgt := 59) hx hb dX5_barsDays_52 (by decide) (fun c7 => ?_) (fun c7 => ?_)
          rotate_left
          · exact absurd (by decide) c7
          refine lv_iconst (v := 2) hx hb dX5_barsDays_59 (by decide) ?_
          exact pI hx hb hr hlk hH (by unfold cdSpan; rw [c9, if_neg (by decide), if_neg (fun q => span_no2 c1 c4 q.2)]; rfl) dX5_barsDays_60
      · refine lv_iload_n hx hb dX5_barsDays_23 rfl (lv_at hl 3 rfl) ?_
        refine lv_iload_n hx hb dX5_barsDays_24 rfl (lv_at hl 2 rfl) ?_
        refine lv_isub hx hb dX5_barsDays_25 ?_
        refine lv_sipush (v := 400) hx hb dX5_barsDays_26 (by decide) ?_
        refine lv_icmp_gt (tgt := 36) hx hb dX5_barsDays_29 (by decide) (fun c5 => ?_) (fun c5 => ?_)
        · refine lv_iconst (v := 0) hx hb dX5_barsDays_36 (by decide) ?_
          refine lv_istore (lv' := [(4, .int 0), (0, .ref x), (1, .int pa), (2, .int d1), (3, .int d2)]) hx hb dX5_barsDays_37 hl (by decide) rfl (fun ls hl => ?_)
          refine lv_iload_n hx hb dX5_barsDays_39 rfl (lv_at hl 2 rfl) ?_
          refine pS hx hb hml hts hown hE kwX5_105 (c_isParty E pa H) (Nat.le_of_ble_eq_true rfl) rfl hl.1 rfl (Nat.le_of_ble_eq_true rfl) (Nat.le_refl _) (Nat.le_refl _) dX5_barsDays_40 ?_
          cases c9 : inB pa 0 3 with
          | false =>
            refine lv_if_ne (tgt := 50) hx hb dX5_barsDays_43 (by decide) (fun c8 => ?_) (fun c8 => ?_)
            · exact absurd (by decide) c8
            refine lv_iconst (v := 1) hx hb dX5_barsDays_46 (by decide) ?_
            refine lv_goto (tgt := 60) hx hb dX5_barsDays_47 (by decide) ?_
            exact pI hx hb hr hlk hH (by unfold cdSpan; rw [c9]; rfl) dX5_barsDays_60
          | true =>
            refine lv_if_ne (tgt := 50) hx hb dX5_barsDays_43 (by decide) (fun c8 => ?_) (fun c8 => ?_)
            rotate_left
            · exact absurd c8 (by decide)
            refine lv_iload hx hb dX5_barsDays_50 (lv_at hl 0 rfl) ?_
            refine lv_if_eq (tgt := 59) hx hb dX5_barsDays_52 (by decide) (fun c7 => ?_) (fun c7 => ?_)
            rotate_left
            · exact absurd (by decide) c7
            refine lv_iconst (v := 2) hx hb dX5_barsDays_59 (by decide) ?_
            exact pI hx hb hr hlk hH (by unfold cdSpan; rw [c9, if_neg (by decide), if_neg (fun q => span_no3 c1 c3 c5 q.2)]; rfl) dX5_barsDays_60
        · refine lv_iconst (v := 1) hx hb dX5_barsDays_32 (by decide) ?_
          refine lv_goto (tgt := 37) hx hb dX5_barsDays_33 (by decide) ?_
          refine lv_istore (lv' := [(4, .int 1), (0, .ref x), (1, .int pa), (2, .int d1), (3, .int d2)]) hx hb dX5_barsDays_37 hl (by decide) rfl (fun ls hl => ?_)
          refine lv_iload_n hx hb dX5_barsDays_39 rfl (lv_at hl 2 rfl) ?_
          refine pS hx hb hml hts hown hE kwX5_105 (c_isParty E pa H) (Nat.le_of_ble_eq_true rfl) rfl hl.1 rfl (Nat.le_of_ble_eq_true rfl) (Nat.le_refl _) (Nat.le_refl _) dX5_barsDays_40 ?_
          cases c9 : inB pa 0 3 with
          | false =>
            refine lv_if_ne (tgt := 50) hx hb dX5_barsDays_43 (by decide) (fun c8 => ?_) (fun c8 => ?_)
            · exact absurd (by decide) c8
            refine lv_iconst (v := 1) hx hb dX5_barsDays_46 (by decide) ?_
            refine lv_goto (tgt := 60) hx hb dX5_barsDays_47 (by decide) ?_
            exact pI hx hb hr hlk hH (by unfold cdSpan; rw [c9]; rfl) dX5_barsDays_60
          | true =>
            refine lv_if_ne (tgt := 50) hx hb dX5_barsDays_43 (by decide) (fun c8 => ?_) (fun c8 => ?_)
            rotate_left
            · exact absurd c8 (by decide)
            refine lv_iload hx hb dX5_barsDays_50 (lv_at hl 0 rfl) ?_
            refine lv_if_eq (tgt := 59) hx hb dX5_barsDays_52 (by decide) (fun c7 => ?_) (fun c7 => ?_)
            · exact absurd c7 (by decide)
            refine lv_iconst (v := 0) hx hb dX5_barsDays_55 (by decide) ?_
            refine lv_goto (tgt := 60) hx hb dX5_barsDays_56 (by decide) ?_
            exact pI hx hb hr hlk hH (by unfold cdSpan; rw [c9, if_neg (by decide), if_pos (⟨c1, span_yes c1 c3 c4 c5⟩)]; rfl) dX5_barsDays_60

set_option maxRecDepth 100000 in
set_option maxHeartbeats 4000000 in
/-- cashOfDays -/
theorem c_mdaysum (E : ET) (ow : Nat → Nat × Nat) (x : Nat) (sc : Nat → Int32) (ad : Nat → Nat) (ar : Nat → Nat → Int32) (h0 h1 fx : Dy) (ts : List TR) (B : BK) (pa d1 d2 : Int32) (H : Heap) (hM : MR E ow x sc ad ar H) (hI : MI sc ar h0 h1 fx ts B) (hV : SV h0 h1 fx ts)  : Con E yX5_cashOfDays cX5_cashOfDays 4 (some FieldType.long) 8 0 0 [.ref x, .int pa, .int d1, .int d2] H (o1 (some (.long (if cdSpan pa d1 d2 = 0 then sumS h0 h1 fx pa d1 d2 0 ts else 0))) (fun H' => MO E ow x h0 h1 fx ts B (cdSpan pa d1 d2) H H')) := by
  refine Con.of (C := RX5) rfl (by decide +kernel) (Nat.le_of_ble_eq_true rfl) ?_
  intro p e s m below meth co ls hx hb hr hlk hml hown hts hin hE hH hS hl
  have hl : lv_has ls 4 [(0, .ref x), (1, .int pa), (2, .int d1), (3, .int d2)] := hl
  have hB : eB E ≤ s.heap.size := by rw [hH]; exact hE.2.1
  have hO := hM.1.1
  have htn := hV.tn
  have hn6 := hI.2.2.2.2.1
  have hF : FR (fun z => (ow z).1 = 4 ∧ (ow z).2 ≤ 23) H H := FR.rf
  refine lv_aload_n hx hb dX5_cashOfDays_0 rfl (lv_at hl 0 rfl) ?_
  refine lv_aload_n hx hb dX5_cashOfDays_1 rfl (lv_at hl 0 rfl) ?_
  refine lv_iload_n hx hb dX5_cashOfDays_2 rfl (lv_at hl 1 rfl) ?_
  refine lv_iload_n hx hb dX5_cashOfDays_3 rfl (lv_at hl 2 rfl) ?_
  refine lv_iload_n hx hb dX5_cashOfDays_4 rfl (lv_at hl 3 rfl) ?_
  refine pV hx hb hml hts hown hE kwX5_164 (c_mbars E x pa d1 d2 H _ hO) hO rfl (Nat.le_of_ble_eq_true rfl) rfl hl.1 rfl (Nat.le_of_ble_eq_true rfl) (by omega) (by omega) dX5_cashOfDays_5 ?_
  refine pf hx hb hts hown hE hS pkX5_71 rfl hO hM.2.1.2 rfl rfl (Nat.le_of_ble_eq_true rfl) dX5_cashOfDays_8 (fun H1 L1 hO1 hz1 hq1 hE hS => ?_)
  have hO : OB E 6 [.int (nI (cdSpan pa d1 d2)), .ref (ad 1), .ref (ad 2), .ref (ad 3), .ref (ad 4), .int (sc 5), .int (sc 6), .ref (ad 7), .ref (ad 8), .ref (ad 9), .ref (ad 10), .ref (ad 11), .ref (ad 12), .ref (ad 13), .ref (ad 14), .ref (ad 15), .ref (ad 16), .int (sc 17), .ref (ad 18), .ref (ad 19), .ref (ad 20), .ref (ad 21), .ref (ad 22), .ref (ad 23)] x H1 := hO1
  have hF := hF.put hz1 hq1 (fun _ => ⟨by rw [hM.2.1.1], by rw [hM.2.1.1]; exact Nat.zero_le _⟩)
  have hM := hM.put (sc' := (upd sc 0 (nI (cdSpan pa d1 d2)))) hO hq1
  have hI : MI (upd sc 0 (nI (cdSpan pa d1 d2))) ar h0 h1 fx ts B := hI
  refine lv_aload_n hx hb dX5_cashOfDays_11 rfl (lv_at hl 0 rfl) ?_
  refine gf hx hb hts hown hE lkX5_71 hO rfl dX5_cashOfDays_12 ?_
  have hcl := cdSpan_le pa d1 d2
  by_cases hcd : cdSpan pa d1 d2 = 0
  · refine lv_if_le (tgt := 22) hx hb dX5_cashOfDays_15 (by decide) (fun c9 => ?_) (fun c9 => ?_)
    rotate_left
    · exact absurd (by rw [hcd]; decide) c9
    refine lv_aload_n hx hb dX5_cashOfDays_22 rfl (lv_at hl 0 rfl) ?_
    refine lv_iload_n hx hb dX5_cashOfDays_23 rfl (lv_at hl 1 rfl) ?_
    refine lv_iload_n hx hb dX5_cashOfDays_24 rfl (lv_at hl 2 rfl) ?_
    refine lv_iload_n hx hb dX5_cashOfDays_25 rfl (lv_at hl 3 rfl) ?_
    refine pV hx hb hml hts hown hE kwX5_160 (c_msum E x (upd sc 0 (nI (cdSpan pa d1 d2))) ad ar h0 h1 fx ts B pa d1 d2 H1 hM.1 hI hV) hO rfl (Nat.le_of_ble_eq_true rfl) rfl hl.1 rfl (Nat.le_of_ble_eq_true rfl) (by omega) (by omega) dX5_cashOfDays_26 ?_
    exact cL hx hb hr hlk hB hS (by omega) (by omega) (⟨by rw [if_pos hcd], ⟨(upd sc 0 (nI (cdSpan pa d1 d2))), ad, ar, hM, hI, rfl⟩, hF, by omega⟩) dX5_cashOfDays_29
  · refine lv_if_le (tgt := 22) hx hb dX5_cashOfDays_15 (by decide) (fun c9 => ?_) (fun c9 => ?_)
    · exact absurd c9 (nI_nle (by omega) (by omega))
    refine lv_lconst (v := 0) hx hb dX5_cashOfDays_18 (by decide) ?_
    refine lv_goto (tgt := 29) hx hb dX5_cashOfDays_19 (by decide) ?_
    exact cL hx hb hr hlk hB hS (by omega) (by omega) (⟨by rw [if_neg hcd], ⟨(upd sc 0 (nI (cdSpan pa d1 d2))), ad, ar, hM, hI, rfl⟩, hF, by omega⟩) dX5_cashOfDays_29

set_option maxRecDepth 100000 in
set_option maxHeartbeats 4000000 in
/-- cashByTrades -/
theorem c_mbytr (E : ET) (ow : Nat → Nat × Nat) (x : Nat) (sc : Nat → Int32) (ad : Nat → Nat) (ar : Nat → Nat → Int32) (h0 h1 fx : Dy) (ts : List TR) (B : BK) (pa d1 d2 : Int32) (H : Heap) (hM : MR E ow x sc ad ar H) (hI : MI sc ar h0 h1 fx ts B) (hV : SV h0 h1 fx ts)  : Con E yX5_cashByTrades cX5_cashByTrades 4 (some FieldType.long) 8 0 0 [.ref x, .int pa, .int d1, .int d2] H (o1 (some (.long (if cdSpan pa d1 d2 = 0 then sumS h0 h1 fx pa d1 d2 0 ts else 0))) (fun H' => MO E ow x h0 h1 fx ts B (cdSpan pa d1 d2) H H')) := by
  refine Con.of (C := RX5) rfl (by decide +kernel) (Nat.le_of_ble_eq_true rfl) ?_
  intro p e s m below meth co ls hx hb hr hlk hml hown hts hin hE hH hS hl
  have hl : lv_has ls 4 [(0, .ref x), (1, .int pa), (2, .int d1), (3, .int d2)] := hl
  have hB : eB E ≤ s.heap.size := by rw [hH]; exact hE.2.1
  have hO := hM.1.1
  have htn := hV.tn
  have hn6 := hI.2.2.2.2.1
  have hF : FR (fun z => (ow z).1 = 4 ∧ (ow z).2 ≤ 23) H H := FR.rf
  refine lv_aload_n hx hb dX5_cashByTrades_0 rfl (lv_at hl 0 rfl) ?_
  refine lv_aload_n hx hb dX5_cashByTrades_1 rfl (lv_at hl 0 rfl) ?_
  refine lv_iload_n hx hb dX5_cashByTrades_2 rfl (lv_at hl 1 rfl) ?_
  refine lv_iload_n hx hb dX5_cashByTrades_3 rfl (lv_at hl 2 rfl) ?_
  refine lv_iload_n hx hb dX5_cashByTrades_4 rfl (lv_at hl 3 rfl) ?_
  refine pV hx hb hml hts hown hE kwX5_164 (c_mbars E x pa d1 d2 H _ hO) hO rfl (Nat.le_of_ble_eq_true rfl) rfl hl.1 rfl (Nat.le_of_ble_eq_true rfl) (by omega) (by omega) dX5_cashByTrades_5 ?_
  refine pf hx hb hts hown hE hS pkX5_71 rfl hO hM.2.1.2 rfl rfl (Nat.le_of_ble_eq_true rfl) dX5_cashByTrades_8 (fun H1 L1 hO1 hz1 hq1 hE hS => ?_)
  have hO : OB E 6 [.int (nI (cdSpan pa d1 d2)), .ref (ad 1), .ref (ad 2), .ref (ad 3), .ref (ad 4), .int (sc 5), .int (sc 6), .ref (ad 7), .ref (ad 8), .ref (ad 9), .ref (ad 10), .ref (ad 11), .ref (ad 12), .ref (ad 13), .ref (ad 14), .ref (ad 15), .ref (ad 16), .int (sc 17), .ref (ad 18), .ref (ad 19), .ref (ad 20), .ref (ad 21), .ref (ad 22), .ref (ad 23)] x H1 := hO1
  have hF := hF.put hz1 hq1 (fun _ => ⟨by rw [hM.2.1.1], by rw [hM.2.1.1]; exact Nat.zero_le _⟩)
  have hM := hM.put (sc' := (upd sc 0 (nI (cdSpan pa d1 d2)))) hO hq1
  have hI : MI (upd sc 0 (nI (cdSpan pa d1 d2))) ar h0 h1 fx ts B := hI
  refine lv_aload_n hx hb dX5_cashByTrades_11 rfl (lv_at hl 0 rfl) ?_
  refine gf hx hb hts hown hE lkX5_71 hO rfl dX5_cashByTrades_12 ?_
  have hcl := cdSpan_le pa d1 d2
  by_cases hcd : cdSpan pa d1 d2 = 0
  · refine lv_if_le (tgt := 22) hx hb dX5_cashByTrades_15 (by decide) (fun c9 => ?_) (fun c9 => ?_)
    rotate_left
    · exact absurd (by rw [hcd]; decide) c9
    refine lv_aload_n hx hb dX5_cashByTrades_22 rfl (lv_at hl 0 rfl) ?_
    refine lv_iload_n hx hb dX5_cashByTrades_23 rfl (lv_at hl 1 rfl) ?_
    refine lv_iload_n hx hb dX5_cashByTrades_24 rfl (lv_at hl 2 rfl) ?_
    refine lv_iload_n hx hb dX5_cashByTrades_25 rfl (lv_at hl 3 rfl) ?_
    refine pV hx hb hml hts hown hE kwX5_160 (c_msum E x (upd sc 0 (nI (cdSpan pa d1 d2))) ad ar h0 h1 fx ts B pa d1 d2 H1 hM.1 hI hV) hO rfl (Nat.le_of_ble_eq_true rfl) rfl hl.1 rfl (Nat.le_of_ble_eq_true rfl) (by omega) (by omega) dX5_cashByTrades_26 ?_
    exact cL hx hb hr hlk hB hS (by omega) (by omega) (⟨by rw [if_pos hcd], ⟨(upd sc 0 (nI (cdSpan pa d1 d2))), ad, ar, hM, hI, rfl⟩, hF, by omega⟩) dX5_cashByTrades_29
  · refine lv_if_le (tgt := 22) hx hb dX5_cashByTrades_15 (by decide) (fun c9 => ?_) (fun c9 => ?_)
    · exact absurd c9 (nI_nle (by omega) (by omega))
    refine lv_lconst (v := 0) hx hb dX5_cashByTrades_18 (by decide) ?_
    refine lv_goto (tgt := 29) hx hb dX5_cashByTrades_19 (by decide) ?_
    exact cL hx hb hr hlk hB hS (by omega) (by omega) (⟨by rw [if_neg hcd], ⟨(upd sc 0 (nI (cdSpan pa d1 d2))), ad, ar, hM, hI, rfl⟩, hF, by omega⟩) dX5_cashByTrades_29

set_option maxRecDepth 100000 in
set_option maxHeartbeats 4000000 in
/-- isPeriod -/
theorem c_mperiod (E : ET) (ow : Nat → Nat × Nat) (x : Nat) (sc : Nat → Int32) (ad : Nat → Nat) (ar : Nat → Nat → Int32) (h0 h1 fx : Dy) (ts : List TR) (B : BK) (t k : Int32) (H : Heap) (hM : MR E ow x sc ad ar H) (hI : MI sc ar h0 h1 fx ts B) (hV : SV h0 h1 fx ts)  : Con E yX5_isPeriod cX5_isPeriod 3 (some FieldType.boolean) 4 0 0 [.ref x, .int t, .int k] H (o1 (some (.int (if cdPd ts t k = 0 then 1 else 0))) (fun H' => MO E ow x h0 h1 fx ts B (cdPd ts t k) H H')) := by
  refine Con.of (C := RX5) rfl (by decide +kernel) (Nat.le_of_ble_eq_true rfl) ?_
  intro p e s m below meth co ls hx hb hr hlk hml hown hts hin hE hH hS hl
  have hl : lv_has ls 3 [(0, .ref x), (1, .int t), (2, .int k)] := hl
  have hB : eB E ≤ s.heap.size := by rw [hH]; exact hE.2.1
  have hO := hM.1.1
  have htn := hV.tn
  have hn6 := hI.2.2.2.2.1
  have hF : FR (fun z => (ow z).1 = 4 ∧ (ow z).2 ≤ 23) H H := FR.rf
  refine lv_aload_n hx hb dX5_isPeriod_0 rfl (lv_at hl 0 rfl) ?_
  refine lv_aload_n hx hb dX5_isPeriod_1 rfl (lv_at hl 0 rfl) ?_
  refine lv_iload_n hx hb dX5_isPeriod_2 rfl (lv_at hl 1 rfl) ?_
  refine pV hx hb hml hts hown hE kwX5_82 (c_isTrade E x sc ad ar t H hM.1) hO rfl (Nat.le_of_ble_eq_true rfl) rfl hl.1 rfl (Nat.le_of_ble_eq_true rfl) (by omega) (by omega) dX5_isPeriod_3 ?_
  rw [show inB t 0 (sc 6 - 1) = inB t 0 (nI ts.length - 1) by rw [← hn6]]
  cases c1 : inB t 0 (nI ts.length - 1) with
  | false =>
    have etr : trd ts t = none := trd_no (fun ⟨i, hi, e⟩ => by rw [(inB_pred (h := by omega)).mpr ⟨i, hi, e⟩] at c1; cases c1)
    refine lv_if_eq (tgt := 29) hx hb dX5_isPeriod_6 (by decide) (fun c2 => ?_) (fun c2 => ?_)
    rotate_left
    · exact absurd (by decide) c2
    have hcd : cdPd ts t k = 1 := by unfold cdPd; rw [etr]
    refine lv_iconst (v := 1) hx hb dX5_isPeriod_29 (by decide) ?_
    refine pf hx hb hts hown hE hS pkX5_71 rfl hO hM.2.1.2 rfl rfl (Nat.le_of_ble_eq_true rfl) dX5_isPeriod_30 (fun H1 L1 hO1 hz1 hq1 hE hS => ?_)
    have hO : OB E 6 [.int 1, .ref (ad 1), .ref (ad 2), .ref (ad 3), .ref (ad 4), .int (sc 5), .int (sc 6), .ref (ad 7), .ref (ad 8), .ref (ad 9), .ref (ad 10), .ref (ad 11), .ref (ad 12), .ref (ad 13), .ref (ad 14), .ref (ad 15), .ref (ad 16), .int (sc 17), .ref (ad 18), .ref (ad 19), .ref (ad 20), .ref (ad 21), .ref (ad 22), .ref (ad 23)] x H1 := hO1
    have hF := hF.put hz1 hq1 (fun _ => ⟨by rw [hM.2.1.1], by rw [hM.2.1.1]; exact Nat.zero_le _⟩)
    have hM := hM.put (sc' := (upd sc 0 1)) hO hq1
    have hI : MI (upd sc 0 1) ar h0 h1 fx ts B := hI
    refine lv_aload_n hx hb dX5_isPeriod_33 rfl (lv_at hl 0 rfl) ?_
    refine gf hx hb hts hown hE lkX5_71 hO rfl dX5_isPeriod_34 ?_
    refine lv_if_ne (tgt := 44) hx hb dX5_isPeriod_37 (by decide) (fun c9 => ?_) (fun c9 => ?_)
    rotate_left
    · exact absurd c9 (by decide)
    refine lv_iconst (v := 0) hx hb dX5_isPeriod_44 (by decide) ?_
    exact cZ hx hb hr hlk hB hS (by omega) (by omega) (by decide) (⟨by rw [hcd]; rfl, ⟨(upd sc 0 1), ad, ar, hM, hI, by rw [hcd]; rfl⟩, hF, by omega⟩) dX5_isPeriod_45
  | true =>
    obtain ⟨i, hi, et⟩ := (inB_pred (n := ts.length) (h := by omega)).mp c1
    obtain ⟨tr, ht⟩ := getq hi
    have etr : trd ts t = some tr := by rw [et, trd_nI (by omega)]; exact ht
    have hi10 : i < 10 := by omega
    refine lv_if_eq (tgt := 29) hx hb dX5_isPeriod_6 (by decide) (fun c2 => ?_) (fun c2 => ?_)
    · exact absurd c2 (by decide)
    obtain ⟨n6, n1, n10⟩ := (hV.tv ht).n
    refine lv_iload_n hx hb dX5_isPeriod_9 rfl (lv_at hl 2 rfl) ?_
    refine lv_iconst (v := 0) hx hb dX5_isPeriod_10 (by decide) ?_
    refine lv_aload_n hx hb dX5_isPeriod_11 rfl (lv_at hl 0 rfl) ?_
    refine gf hx hb hts hown hE lkX5_41 hO rfl dX5_isPeriod_12 ?_
    refine lv_iload_n hx hb dX5_isPeriod_15 rfl (lv_at hl 1 rfl) ?_
    have hA13 : IA E 10 (ar 13) (ad 13) H := hM.1.2 13 rfl
    refine aI hx hb hE hA13 et hi10 (by omega) ((hI.2.2.2.2.2.1 i tr ht 6 (by omega)).trans n6) dX5_isPeriod_16 ?_
    refine lv_iconst (v := 1) hx hb dX5_isPeriod_17 (by decide) ?_
    refine lv_isub hx hb dX5_isPeriod_18 ?_
    refine pS hx hb hml hts hown hE kwX5_75 (c_in E k 0 (nI (np tr) - 1) H) (Nat.le_of_ble_eq_true rfl) rfl hl.1 rfl (Nat.le_of_ble_eq_true rfl) (by omega) (by omega) dX5_isPeriod_19 ?_
    cases c3 : inB k 0 (nI (np tr) - 1) with
    | false =>
      refine lv_if_eq (tgt := 29) hx hb dX5_isPeriod_22 (by decide) (fun c4 => ?_) (fun c4 => ?_)
      rotate_left
      · exact absurd (by decide) c4
      have hpr : (prd tr k).isSome = false := prd_f c3 (by omega)
      have hcd : cdPd ts t k = 1 := by unfold cdPd; rw [etr]; simp only; rw [hpr]; rfl
      refine lv_iconst (v := 1) hx hb dX5_isPeriod_29 (by decide) ?_
      refine pf hx hb hts hown hE hS pkX5_71 rfl hO hM.2.1.2 rfl rfl (Nat.le_of_ble_eq_true rfl) dX5_isPeriod_30 (fun H1 L1 hO1 hz1 hq1 hE hS => ?_)
      have hO : OB E 6 [.int 1, .ref (ad 1), .ref (ad 2), .ref (ad 3), .ref (ad 4), .int (sc 5), .int (sc 6), .ref (ad 7), .ref (ad 8), .ref (ad 9), .ref (ad 10), .ref (ad 11), .ref (ad 12), .ref (ad 13), .ref (ad 14), .ref (ad 15), .ref (ad 16), .int (sc 17), .ref (ad 18), .ref (ad 19), .ref (ad 20), .ref (ad 21), .ref (ad 22), .ref (ad 23)] x H1 := hO1
      have hF := hF.put hz1 hq1 (fun _ => ⟨by rw [hM.2.1.1], by rw [hM.2.1.1]; exact Nat.zero_le _⟩)
      have hM := hM.put (sc' := (upd sc 0 1)) hO hq1
      have hI : MI (upd sc 0 1) ar h0 h1 fx ts B := hI
      refine lv_aload_n hx hb dX5_isPeriod_33 rfl (lv_at hl 0 rfl) ?_
      refine gf hx hb hts hown hE lkX5_71 hO rfl dX5_isPeriod_34 ?_
      refine lv_if_ne (tgt := 44) hx hb dX5_isPeriod_37 (by decide) (fun c9 => ?_) (fun c9 => ?_)
      rotate_left
      · exact absurd c9 (by decide)
      refine lv_iconst (v := 0) hx hb dX5_isPeriod_44 (by decide) ?_
      exact cZ hx hb hr hlk hB hS (by omega) (by omega) (by decide) (⟨by rw [hcd]; rfl, ⟨(upd sc 0 1), ad, ar, hM, hI, by rw [hcd]; rfl⟩, hF, by omega⟩) dX5_isPeriod_45
    | true =>
      refine lv_if_eq (tgt := 29) hx hb dX5_isPeriod_22 (by decide) (fun c4 => ?_) (fun c4 => ?_)
      · exact absurd c4 (by decide)
      have hpr : (prd tr k).isSome = true := prd_t c3 (by omega)
      have hcd : cdPd ts t k = 0 := by unfold cdPd; rw [etr]; simp only; rw [hpr]; rfl
      refine lv_iconst (v := 0) hx hb dX5_isPeriod_25 (by decide) ?_
      refine lv_goto (tgt := 30) hx hb dX5_isPeriod_26 (by decide) ?_
      refine pf hx hb hts hown hE hS pkX5_71 rfl hO hM.2.1.2 rfl rfl (Nat.le_of_ble_eq_true rfl) dX5_isPeriod_30 (fun H1 L1 hO1 hz1 hq1 hE hS => ?_)
      have hO : OB E 6 [.int 0, .ref (ad 1), .ref (ad 2), .ref (ad 3), .ref (ad 4), .int (sc 5), .int (sc 6), .ref (ad 7), .ref (ad 8), .ref (ad 9), .ref (ad 10), .ref (ad 11), .ref (ad 12), .ref (ad 13), .ref (ad 14), .ref (ad 15), .ref (ad 16), .int (sc 17), .ref (ad 18), .ref (ad 19), .ref (ad 20), .ref (ad 21), .ref (ad 22), .ref (ad 23)] x H1 := hO1
      have hF := hF.put hz1 hq1 (fun _ => ⟨by rw [hM.2.1.1], by rw [hM.2.1.1]; exact Nat.zero_le _⟩)
      have hM := hM.put (sc' := (upd sc 0 0)) hO hq1
      have hI : MI (upd sc 0 0) ar h0 h1 fx ts B := hI
      refine lv_aload_n hx hb dX5_isPeriod_33 rfl (lv_at hl 0 rfl) ?_
      refine gf hx hb hts hown hE lkX5_71 hO rfl dX5_isPeriod_34 ?_
      refine lv_if_ne (tgt := 44) hx hb dX5_isPeriod_37 (by decide) (fun c9 => ?_) (fun c9 => ?_)
      · exact absurd (by decide) c9
      refine lv_iconst (v := 1) hx hb dX5_isPeriod_40 (by decide) ?_
      refine lv_goto (tgt := 45) hx hb dX5_isPeriod_41 (by decide) ?_
      exact cZ hx hb hr hlk hB hS (by omega) (by omega) (by decide) (⟨by rw [hcd]; rfl, ⟨(upd sc 0 0), ad, ar, hM, hI, by rw [hcd]; rfl⟩, hF, by omega⟩) dX5_isPeriod_45

set_option maxRecDepth 100000 in
set_option maxHeartbeats 4000000 in
/-- start -/
theorem c_mstart (E : ET) (ow : Nat → Nat × Nat) (x : Nat) (sc : Nat → Int32) (ad : Nat → Nat) (ar : Nat → Nat → Int32) (h0 h1 fx : Dy) (ts : List TR) (B : BK) (t k : Int32) (H : Heap) (hM : MR E ow x sc ad ar H) (hI : MI sc ar h0 h1 fx ts B) (hV : SV h0 h1 fx ts)  : Con E yX5_start cX5_start 3 (some FieldType.int) 8 0 0 [.ref x, .int t, .int k] H (o1 (some (.int (if cdPd ts t k = 0 then ((trd ts t).bind (fun tr => (prd tr k).map (fun j => bfC h0 h1 tr.1 j))).getD 0 else 0))) (fun H' => MO E ow x h0 h1 fx ts B (cdPd ts t k) H H')) := by
  refine Con.of (C := RX5) rfl (by decide +kernel) (Nat.le_of_ble_eq_true rfl) ?_
  intro p e s m below meth co ls hx hb hr hlk hml hown hts hin hE hH hS hl
  have hl : lv_has ls 3 [(0, .ref x), (1, .int t), (2, .int k)] := hl
  have hB : eB E ≤ s.heap.size := by rw [hH]; exact hE.2.1
  have hO := hM.1.1
  have htn := hV.tn
  have hn6 := hI.2.2.2.2.1
  have hF : FR (fun z => (ow z).1 = 4 ∧ (ow z).2 ≤ 23) H H := FR.rf
  refine lv_aload_n hx hb dX5_start_0 rfl (lv_at hl 0 rfl) ?_
  refine lv_iload_n hx hb dX5_start_1 rfl (lv_at hl 1 rfl) ?_
  refine lv_iload_n hx hb dX5_start_2 rfl (lv_at hl 2 rfl) ?_
  have hF0 := hF
  refine gV hx hb hml hts hown hB hE hS kwX5_154 (c_mperiod E ow x sc ad ar h0 h1 fx ts B t k H hM hI hV) hO rfl (Nat.le_of_ble_eq_true rfl) rfl hl.1 rfl (Nat.le_of_ble_eq_true rfl) (by omega) (by omega) dX5_start_3 (fun H1 L1 hG hz1 hE hS => ?_)
  obtain ⟨⟨sc2, ad2, ar2, hM2, hI2, hc2⟩, hF2, hz9⟩ := hG
  have hO := hM2.1.1
  rcases cdPd_c ts t k with ⟨hcd, tr, j, etr, epr⟩ | hcd
  · rw [show (if cdPd ts t k = 0 then (1 : Int32) else 0) = 1 from if_pos hcd]
    refine lv_if_eq (tgt := 18) hx hb dX5_start_6 (by decide) (fun c9 => ?_) (fun c9 => ?_)
    · exact absurd c9 (by decide)
    obtain ⟨i, hi, et, ht⟩ := trd_i etr
    obtain ⟨hj, ek⟩ := prd_i epr
    obtain ⟨n6, n1, n10⟩ := (hV.tv ht).n
    subst et ek
    refine lv_aload_n hx hb dX5_start_9 rfl (lv_at hl 0 rfl) ?_
    refine lv_iload_n hx hb dX5_start_10 rfl (lv_at hl 1 rfl) ?_
    refine lv_iload_n hx hb dX5_start_11 rfl (lv_at hl 2 rfl) ?_
    refine pV hx hb hml hts hown hE kwX5_128 (c_beg E x sc2 ad2 ar2 h0 h1 fx ts B i tr j (np tr) H1 hM2.1 hI2 hV ht n6 n10 (by omega)) hO rfl (Nat.le_of_ble_eq_true rfl) rfl hl.1 rfl (Nat.le_of_ble_eq_true rfl) (by omega) (by omega) dX5_start_12 ?_
    refine lv_goto (tgt := 19) hx hb dX5_start_15 (by decide) ?_
    exact cI hx hb hr hlk hB hS (by omega) (by omega) (⟨by rw [if_pos hcd, etr]; simp [epr], ⟨sc2, ad2, ar2, hM2, hI2, hc2⟩, hF2, by omega⟩) dX5_start_19
  · rw [show (if cdPd ts t k = 0 then (1 : Int32) else 0) = 0 from if_neg hcd]
    refine lv_if_eq (tgt := 18) hx hb dX5_start_6 (by decide) (fun c9 => ?_) (fun c9 => ?_)
    rotate_left
    · exact absurd (by decide) c9
    refine lv_iconst (v := 0) hx hb dX5_start_18 (by decide) ?_
    exact cI hx hb hr hlk hB hS (by omega) (by omega) (⟨by rw [if_neg hcd], ⟨sc2, ad2, ar2, hM2, hI2, hc2⟩, hF2, by omega⟩) dX5_start_19

set_option maxRecDepth 100000 in
set_option maxHeartbeats 4000000 in
/-- end -/
theorem c_mend (E : ET) (ow : Nat → Nat × Nat) (x : Nat) (sc : Nat → Int32) (ad : Nat → Nat) (ar : Nat → Nat → Int32) (h0 h1 fx : Dy) (ts : List TR) (B : BK) (t k : Int32) (H : Heap) (hM : MR E ow x sc ad ar H) (hI : MI sc ar h0 h1 fx ts B) (hV : SV h0 h1 fx ts)  : Con E yX5_end cX5_end 3 (some FieldType.int) 8 0 0 [.ref x, .int t, .int k] H (o1 (some (.int (if cdPd ts t k = 0 then ((trd ts t).bind (fun tr => (prd tr k).map (fun j => bfC h0 h1 tr.1 (j + 1)))).getD 0 else 0))) (fun H' => MO E ow x h0 h1 fx ts B (cdPd ts t k) H H')) := by
  refine Con.of (C := RX5) rfl (by decide +kernel) (Nat.le_of_ble_eq_true rfl) ?_
  intro p e s m below meth co ls hx hb hr hlk hml hown hts hin hE hH hS hl
  have hl : lv_has ls 3 [(0, .ref x), (1, .int t), (2, .int k)] := hl
  have hB : eB E ≤ s.heap.size := by rw [hH]; exact hE.2.1
  have hO := hM.1.1
  have htn := hV.tn
  have hn6 := hI.2.2.2.2.1
  have hF : FR (fun z => (ow z).1 = 4 ∧ (ow z).2 ≤ 23) H H := FR.rf
  refine lv_aload_n hx hb dX5_end_0 rfl (lv_at hl 0 rfl) ?_
  refine lv_iload_n hx hb dX5_end_1 rfl (lv_at hl 1 rfl) ?_
  refine lv_iload_n hx hb dX5_end_2 rfl (lv_at hl 2 rfl) ?_
  have hF0 := hF
  refine gV hx hb hml hts hown hB hE hS kwX5_154 (c_mperiod E ow x sc ad ar h0 h1 fx ts B t k H hM hI hV) hO rfl (Nat.le_of_ble_eq_true rfl) rfl hl.1 rfl (Nat.le_of_ble_eq_true rfl) (by omega) (by omega) dX5_end_3 (fun H1 L1 hG hz1 hE hS => ?_)
  obtain ⟨⟨sc2, ad2, ar2, hM2, hI2, hc2⟩, hF2, hz9⟩ := hG
  have hO := hM2.1.1
  rcases cdPd_c ts t k with ⟨hcd, tr, j, etr, epr⟩ | hcd
  · rw [show (if cdPd ts t k = 0 then (1 : Int32) else 0) = 1 from if_pos hcd]
    refine lv_if_eq (tgt := 20) hx hb dX5_end_6 (by decide) (fun c9 => ?_) (fun c9 => ?_)
    · exact absurd c9 (by decide)
    obtain ⟨i, hi, et, ht⟩ := trd_i etr
    obtain ⟨hj, ek⟩ := prd_i epr
    obtain ⟨n6, n1, n10⟩ := (hV.tv ht).n
    subst et ek
    refine lv_aload_n hx hb dX5_end_9 rfl (lv_at hl 0 rfl) ?_
    refine lv_iload_n hx hb dX5_end_10 rfl (lv_at hl 1 rfl) ?_
    refine lv_iload_n hx hb dX5_end_11 rfl (lv_at hl 2 rfl) ?_
    refine lv_iconst (v := 1) hx hb dX5_end_12 (by decide) ?_
    refine lv_iadd hx hb dX5_end_13 ?_
    rw [nI_1 j]
    refine pV hx hb hml hts hown hE kwX5_128 (c_beg E x sc2 ad2 ar2 h0 h1 fx ts B i tr (j + 1) (np tr) H1 hM2.1 hI2 hV ht n6 n10 (by omega)) hO rfl (Nat.le_of_ble_eq_true rfl) rfl hl.1 rfl (Nat.le_of_ble_eq_true rfl) (by omega) (by omega) dX5_end_14 ?_
    refine lv_goto (tgt := 21) hx hb dX5_end_17 (by decide) ?_
    exact cI hx hb hr hlk hB hS (by omega) (by omega) (⟨by rw [if_pos hcd, etr]; simp [epr], ⟨sc2, ad2, ar2, hM2, hI2, hc2⟩, hF2, by omega⟩) dX5_end_21
  · rw [show (if cdPd ts t k = 0 then (1 : Int32) else 0) = 0 from if_neg hcd]
    refine lv_if_eq (tgt := 20) hx hb dX5_end_6 (by decide) (fun c9 => ?_) (fun c9 => ?_)
    rotate_left
    · exact absurd (by decide) c9
    refine lv_iconst (v := 0) hx hb dX5_end_20 (by decide) ?_
    exact cI hx hb hr hlk hB hS (by omega) (by omega) (⟨by rw [if_neg hcd], ⟨sc2, ad2, ar2, hM2, hI2, hc2⟩, hF2, by omega⟩) dX5_end_21

set_option maxRecDepth 100000 in
set_option maxHeartbeats 4000000 in
/-- lots -/
theorem c_mlotsp (E : ET) (ow : Nat → Nat × Nat) (x : Nat) (sc : Nat → Int32) (ad : Nat → Nat) (ar : Nat → Nat → Int32) (h0 h1 fx : Dy) (ts : List TR) (B : BK) (t k : Int32) (H : Heap) (hM : MR E ow x sc ad ar H) (hI : MI sc ar h0 h1 fx ts B) (hV : SV h0 h1 fx ts)  : Con E yX5_lots cX5_lots 3 (some FieldType.int) 8 0 0 [.ref x, .int t, .int k] H (o1 (some (.int (if cdPd ts t k = 0 then ((trd ts t).bind (fun tr => (prd tr k).map (fun j => lotS tr.1 tr.2.1 (bfC h0 h1 tr.1) j))).getD 0 else 0))) (fun H' => MO E ow x h0 h1 fx ts B (cdPd ts t k) H H')) := by
  refine Con.of (C := RX5) rfl (by decide +kernel) (Nat.le_of_ble_eq_true rfl) ?_
  intro p e s m below meth co ls hx hb hr hlk hml hown hts hin hE hH hS hl
  have hl : lv_has ls 3 [(0, .ref x), (1, .int t), (2, .int k)] := hl
  have hB : eB E ≤ s.heap.size := by rw [hH]; exact hE.2.1
  have hO := hM.1.1
  have htn := hV.tn
  have hn6 := hI.2.2.2.2.1
  have hF : FR (fun z => (ow z).1 = 4 ∧ (ow z).2 ≤ 23) H H := FR.rf
  refine lv_aload_n hx hb dX5_lots_0 rfl (lv_at hl 0 rfl) ?_
  refine lv_iload_n hx hb dX5_lots_1 rfl (lv_at hl 1 rfl) ?_
  refine lv_iload_n hx hb dX5_lots_2 rfl (lv_at hl 2 rfl) ?_
  have hF0 := hF
  refine gV hx hb hml hts hown hB hE hS kwX5_154 (c_mperiod E ow x sc ad ar h0 h1 fx ts B t k H hM hI hV) hO rfl (Nat.le_of_ble_eq_true rfl) rfl hl.1 rfl (Nat.le_of_ble_eq_true rfl) (by omega) (by omega) dX5_lots_3 (fun H1 L1 hG hz1 hE hS => ?_)
  obtain ⟨⟨sc2, ad2, ar2, hM2, hI2, hc2⟩, hF2, hz9⟩ := hG
  have hO := hM2.1.1
  rcases cdPd_c ts t k with ⟨hcd, tr, j, etr, epr⟩ | hcd
  · rw [show (if cdPd ts t k = 0 then (1 : Int32) else 0) = 1 from if_pos hcd]
    refine lv_if_eq (tgt := 18) hx hb dX5_lots_6 (by decide) (fun c9 => ?_) (fun c9 => ?_)
    · exact absurd c9 (by decide)
    obtain ⟨i, hi, et, ht⟩ := trd_i etr
    obtain ⟨hj, ek⟩ := prd_i epr
    obtain ⟨n6, n1, n10⟩ := (hV.tv ht).n
    subst et ek
    refine lv_aload_n hx hb dX5_lots_9 rfl (lv_at hl 0 rfl) ?_
    refine lv_iload_n hx hb dX5_lots_10 rfl (lv_at hl 1 rfl) ?_
    refine lv_iload_n hx hb dX5_lots_11 rfl (lv_at hl 2 rfl) ?_
    refine pV hx hb hml hts hown hE kwX5_151 (c_mlots E x sc2 ad2 ar2 h0 h1 fx ts B i tr j (np tr) H1 hM2.1 hI2 hV ht n6 n10 hj) hO rfl (Nat.le_of_ble_eq_true rfl) rfl hl.1 rfl (Nat.le_of_ble_eq_true rfl) (by omega) (by omega) dX5_lots_12 ?_
    refine lv_goto (tgt := 19) hx hb dX5_lots_15 (by decide) ?_
    exact cI hx hb hr hlk hB hS (by omega) (by omega) (⟨by rw [if_pos hcd, etr]; simp [epr], ⟨sc2, ad2, ar2, hM2, hI2, hc2⟩, hF2, by omega⟩) dX5_lots_19
  · rw [show (if cdPd ts t k = 0 then (1 : Int32) else 0) = 0 from if_neg hcd]
    refine lv_if_eq (tgt := 18) hx hb dX5_lots_6 (by decide) (fun c9 => ?_) (fun c9 => ?_)
    rotate_left
    · exact absurd (by decide) c9
    refine lv_iconst (v := 0) hx hb dX5_lots_18 (by decide) ?_
    exact cI hx hb hr hlk hB hS (by omega) (by omega) (⟨by rw [if_neg hcd], ⟨sc2, ad2, ar2, hM2, hI2, hc2⟩, hF2, by omega⟩) dX5_lots_19

set_option maxRecDepth 100000 in
set_option maxHeartbeats 4000000 in
/-- floating -/
theorem c_mfloatp (E : ET) (ow : Nat → Nat × Nat) (x : Nat) (sc : Nat → Int32) (ad : Nat → Nat) (ar : Nat → Nat → Int32) (h0 h1 fx : Dy) (ts : List TR) (B : BK) (t k : Int32) (H : Heap) (hM : MR E ow x sc ad ar H) (hI : MI sc ar h0 h1 fx ts B) (hV : SV h0 h1 fx ts)  : Con E yX5_floating cX5_floating 3 (some FieldType.long) 8 0 0 [.ref x, .int t, .int k] H (o1 (some (.long (if cdPd ts t k = 0 then ((trd ts t).bind (fun tr => (prd tr k).map (fun j => fltS tr.1 (bfC h0 h1 tr.1) fx j))).getD 0 else 0))) (fun H' => MO E ow x h0 h1 fx ts B (cdPd ts t k) H H')) := by
  refine Con.of (C := RX5) rfl (by decide +kernel) (Nat.le_of_ble_eq_true rfl) ?_
  intro p e s m below meth co ls hx hb hr hlk hml hown hts hin hE hH hS hl
  have hl : lv_has ls 3 [(0, .ref x), (1, .int t), (2, .int k)] := hl
  have hB : eB E ≤ s.heap.size := by rw [hH]; exact hE.2.1
  have hO := hM.1.1
  have htn := hV.tn
  have hn6 := hI.2.2.2.2.1
  have hF : FR (fun z => (ow z).1 = 4 ∧ (ow z).2 ≤ 23) H H := FR.rf
  refine lv_aload_n hx hb dX5_floating_0 rfl (lv_at hl 0 rfl) ?_
  refine lv_iload_n hx hb dX5_floating_1 rfl (lv_at hl 1 rfl) ?_
  refine lv_iload_n hx hb dX5_floating_2 rfl (lv_at hl 2 rfl) ?_
  have hF0 := hF
  refine gV hx hb hml hts hown hB hE hS kwX5_154 (c_mperiod E ow x sc ad ar h0 h1 fx ts B t k H hM hI hV) hO rfl (Nat.le_of_ble_eq_true rfl) rfl hl.1 rfl (Nat.le_of_ble_eq_true rfl) (by omega) (by omega) dX5_floating_3 (fun H1 L1 hG hz1 hE hS => ?_)
  obtain ⟨⟨sc2, ad2, ar2, hM2, hI2, hc2⟩, hF2, hz9⟩ := hG
  have hO := hM2.1.1
  rcases cdPd_c ts t k with ⟨hcd, tr, j, etr, epr⟩ | hcd
  · rw [show (if cdPd ts t k = 0 then (1 : Int32) else 0) = 1 from if_pos hcd]
    refine lv_if_eq (tgt := 18) hx hb dX5_floating_6 (by decide) (fun c9 => ?_) (fun c9 => ?_)
    · exact absurd c9 (by decide)
    obtain ⟨i, hi, et, ht⟩ := trd_i etr
    obtain ⟨hj, ek⟩ := prd_i epr
    obtain ⟨n6, n1, n10⟩ := (hV.tv ht).n
    subst et ek
    refine lv_aload_n hx hb dX5_floating_9 rfl (lv_at hl 0 rfl) ?_
    refine lv_iload_n hx hb dX5_floating_10 rfl (lv_at hl 1 rfl) ?_
    refine lv_iload_n hx hb dX5_floating_11 rfl (lv_at hl 2 rfl) ?_
    refine pV hx hb hml hts hown hE kwX5_147 (c_mfloats E x sc2 ad2 ar2 h0 h1 fx ts B i tr j (np tr) H1 hM2.1 hI2 hV ht n6 n10 hj) hO rfl (Nat.le_of_ble_eq_true rfl) rfl hl.1 rfl (Nat.le_of_ble_eq_true rfl) (by omega) (by omega) dX5_floating_12 ?_
    refine lv_goto (tgt := 19) hx hb dX5_floating_15 (by decide) ?_
    exact cL hx hb hr hlk hB hS (by omega) (by omega) (⟨by rw [if_pos hcd, etr]; simp [epr], ⟨sc2, ad2, ar2, hM2, hI2, hc2⟩, hF2, by omega⟩) dX5_floating_19
  · rw [show (if cdPd ts t k = 0 then (1 : Int32) else 0) = 0 from if_neg hcd]
    refine lv_if_eq (tgt := 18) hx hb dX5_floating_6 (by decide) (fun c9 => ?_) (fun c9 => ?_)
    rotate_left
    · exact absurd (by decide) c9
    refine lv_lconst (v := 0) hx hb dX5_floating_18 (by decide) ?_
    exact cL hx hb hr hlk hB hS (by omega) (by omega) (⟨by rw [if_neg hcd], ⟨sc2, ad2, ar2, hM2, hI2, hc2⟩, hF2, by omega⟩) dX5_floating_19

set_option maxRecDepth 100000 in
set_option maxHeartbeats 4000000 in
/-- flow -/
theorem c_mflowp (E : ET) (ow : Nat → Nat × Nat) (x : Nat) (sc : Nat → Int32) (ad : Nat → Nat) (ar : Nat → Nat → Int32) (h0 h1 fx : Dy) (ts : List TR) (B : BK) (t k : Int32) (H : Heap) (hM : MR E ow x sc ad ar H) (hI : MI sc ar h0 h1 fx ts B) (hV : SV h0 h1 fx ts)  : Con E yX5_flow cX5_flow 3 (some FieldType.long) 8 0 0 [.ref x, .int t, .int k] H (o1 (some (.long (if cdPd ts t k = 0 then ((trd ts t).bind (fun tr => (prd tr k).map (fun j => flwS tr.1 tr.2.1 (bfC h0 h1 tr.1) fx j))).getD 0 else 0))) (fun H' => MO E ow x h0 h1 fx ts B (cdPd ts t k) H H')) := by
  refine Con.of (C := RX5) rfl (by decide +kernel) (Nat.le_of_ble_eq_true rfl) ?_
  intro p e s m below meth co ls hx hb hr hlk hml hown hts hin hE hH hS hl
  have hl : lv_has ls 3 [(0, .ref x), (1, .int t), (2, .int k)] := hl
  have hB : eB E ≤ s.heap.size := by rw [hH]; exact hE.2.1
  have hO := hM.1.1
  have htn := hV.tn
  have hn6 := hI.2.2.2.2.1
  have hF : FR (fun z => (ow z).1 = 4 ∧ (ow z).2 ≤ 23) H H := FR.rf
  refine lv_aload_n hx hb dX5_flow_0 rfl (lv_at hl 0 rfl) ?_
  refine lv_iload_n hx hb dX5_flow_1 rfl (lv_at hl 1 rfl) ?_
  refine lv_iload_n hx hb dX5_flow_2 rfl (lv_at hl 2 rfl) ?_
  have hF0 := hF
  refine gV hx hb hml hts hown hB hE hS kwX5_154 (c_mperiod E ow x sc ad ar h0 h1 fx ts B t k H hM hI hV) hO rfl (Nat.le_of_ble_eq_true rfl) rfl hl.1 rfl (Nat.le_of_ble_eq_true rfl) (by omega) (by omega) dX5_flow_3 (fun H1 L1 hG hz1 hE hS => ?_)
  obtain ⟨⟨sc2, ad2, ar2, hM2, hI2, hc2⟩, hF2, hz9⟩ := hG
  have hO := hM2.1.1
  rcases cdPd_c ts t k with ⟨hcd, tr, j, etr, epr⟩ | hcd
  · rw [show (if cdPd ts t k = 0 then (1 : Int32) else 0) = 1 from if_pos hcd]
    refine lv_if_eq (tgt := 18) hx hb dX5_flow_6 (by decide) (fun c9 => ?_) (fun c9 => ?_)
    · exact absurd c9 (by decide)
    obtain ⟨i, hi, et, ht⟩ := trd_i etr
    obtain ⟨hj, ek⟩ := prd_i epr
    obtain ⟨n6, n1, n10⟩ := (hV.tv ht).n
    subst et ek
    refine lv_aload_n hx hb dX5_flow_9 rfl (lv_at hl 0 rfl) ?_
    refine lv_iload_n hx hb dX5_flow_10 rfl (lv_at hl 1 rfl) ?_
    refine lv_iload_n hx hb dX5_flow_11 rfl (lv_at hl 2 rfl) ?_
    refine pV hx hb hml hts hown hE kwX5_157 (c_mflow E x sc2 ad2 ar2 h0 h1 fx ts B i tr j (np tr) H1 hM2.1 hI2 hV ht n6 n10 hj) hO rfl (Nat.le_of_ble_eq_true rfl) rfl hl.1 rfl (Nat.le_of_ble_eq_true rfl) (by omega) (by omega) dX5_flow_12 ?_
    refine lv_goto (tgt := 19) hx hb dX5_flow_15 (by decide) ?_
    exact cL hx hb hr hlk hB hS (by omega) (by omega) (⟨by rw [if_pos hcd, etr]; simp [epr], ⟨sc2, ad2, ar2, hM2, hI2, hc2⟩, hF2, by omega⟩) dX5_flow_19
  · rw [show (if cdPd ts t k = 0 then (1 : Int32) else 0) = 0 from if_neg hcd]
    refine lv_if_eq (tgt := 18) hx hb dX5_flow_6 (by decide) (fun c9 => ?_) (fun c9 => ?_)
    rotate_left
    · exact absurd (by decide) c9
    refine lv_lconst (v := 0) hx hb dX5_flow_18 (by decide) ?_
    exact cL hx hb hr hlk hB hS (by omega) (by omega) (⟨by rw [if_neg hcd], ⟨sc2, ad2, ar2, hM2, hI2, hc2⟩, hF2, by omega⟩) dX5_flow_19
