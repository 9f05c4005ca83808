/-! breaks as numbers -/
theorem nI_sub {a b : Nat} (h : b ≤ a) : nI a - nI b = nI (a - b) := by
  have e : nI a = nI (a - b) + nI b := by rw [nI_add, Nat.sub_add_cancel h]
  rw [e, Int32.add_sub_cancel]
def bsN (day : Int32) : Dy → Nat
  | [] => 0
  | x :: xs => (if x.1 ≤ day then x.2.toNatClampNeg else 0) + bsN day xs
def bsA : Dy → Nat
  | [] => 0
  | x :: xs => x.2.toNatClampNeg + bsA xs
/-- the breaks are of 1 to 1000 lots, and no more than there are -/
def GB (tr : TR) : Prop := (∀ x ∈ tr.2.1, ∃ v, 1 ≤ v ∧ v ≤ 1000 ∧ x.2 = nI v) ∧ bsA tr.2.1 ≤ (tr.1 1).toNatClampNeg
/-- the rest of a trade -/
def rN (tr : TR) : Nat := (tr.1 1).toNatClampNeg - bsA tr.2.1
theorem bsN_le (day : Int32) : ∀ es : Dy, bsN day es ≤ bsA es
  | [] => Nat.le_refl _
  | x :: xs => by
    have := bsN_le day xs
    unfold bsN bsA
    split <;> omega
theorem bsN_mono {d1 d2 : Int32} (h : d1 ≤ d2) : ∀ es : Dy, bsN d1 es ≤ bsN d2 es
  | [] => Nat.le_refl _
  | x :: xs => by
    have := bsN_mono h xs
    unfold bsN
    by_cases c : x.1 ≤ d1
    · rw [if_pos c, if_pos (Int32.le_trans c h)]; omega
    · rw [if_neg c]; omega
theorem bsN_all {day : Int32} : ∀ es : Dy, (∀ x ∈ es, x.1 ≤ day) → bsN day es = bsA es
  | [], _ => rfl
  | x :: xs, h => by
    unfold bsN bsA
    rw [if_pos (h x List.mem_cons_self), bsN_all xs (fun y hy => h y (List.mem_cons_of_mem _ hy))]
theorem bsA_app (d v : Int32) : ∀ es : Dy, bsA (es ++ [(d, v)]) = bsA es + v.toNatClampNeg
  | [] => by simp [bsA]
  | x :: xs => by
    have := bsA_app d v xs
    show x.2.toNatClampNeg + bsA (xs ++ [(d, v)]) = x.2.toNatClampNeg + bsA xs + v.toNatClampNeg
    omega
theorem smL_N {day : Int32} : ∀ (es : Dy) (s : Int32), (∀ x ∈ es, ∃ v, 1 ≤ v ∧ v ≤ 1000 ∧ x.2 = nI v) → smL day s es = s + nI (bsN day es)
  | [], s, _ => by show s = s + nI 0; rw [show nI 0 = 0 from nI_0, Int32.add_zero]
  | x :: xs, s, h => by
    obtain ⟨v, v1, v2, e⟩ := h x List.mem_cons_self
    have hr := fun q => smL_N (day := day) xs q (fun y hy => h y (List.mem_cons_of_mem _ hy))
    unfold smL bsN
    by_cases c : x.1 ≤ day
    · rw [if_pos c, if_pos c, hr, e, nI_clamp (by omega), Int32.add_assoc, nI_add]
    · rw [if_neg c, if_neg c, hr, Nat.zero_add]
theorem dSum_N {day : Int32} {es : Dy} (h : ∀ x ∈ es, ∃ v, 1 ≤ v ∧ v ≤ 1000 ∧ x.2 = nI v) : dSum es day = nI (bsN day es) := by
  unfold dSum
  rw [smL_N es 0 h, Int32.zero_add]
theorem TV.lo {tr : TR} (h : TV tr) : ∃ lo, 1 ≤ lo ∧ lo ≤ 1000 ∧ tr.1 1 = nI lo ∧ (tr.1 1).toNatClampNeg = lo := by
  obtain ⟨pa, lo, f, le, n, v1, v2, v3, v4, v5, v6, v7, v8, t0, t1, -⟩ := h
  exact ⟨lo, v2, v3, t1, by rw [t1, nI_clamp (by omega)]⟩
theorem TV.pf {tr : TR} (h : TV tr) : tr.1 2 = 0 ∨ tr.1 2 = 1 := by
  obtain ⟨pa, lo, f, le, n, v1, v2, v3, v4, v5, v6, v7, v8, t0, t1, t2, -⟩ := h
  exact t2
theorem TV.ds {tr : TR} (h : TV tr) : ∀ x ∈ tr.2.1, x.1 ≤ 3000 := by
  obtain ⟨pa, lo, f, le, n, v1, v2, v3, v4, v5, v6, v7, v8, t0, t1, t2, t4, t5, t6, t8, t9, tb, -⟩ := h
  intro x hx
  obtain ⟨d, hd, e⟩ := tb x hx
  rw [e]
  exact nI_le (a := d) (b := 3000) hd (by decide)
theorem lot_N {tr : TR} (hT : TV tr) (hG : GB tr) (bf : Nat → Int32) (k : Nat) : lotS tr.1 tr.2.1 bf k = nI ((tr.1 1).toNatClampNeg - bsN (bf k) tr.2.1) := by
  obtain ⟨lo, l1, l2, e, ec⟩ := hT.lo
  have h1 := bsN_le (bf k) tr.2.1
  have h2 := hG.2
  unfold lotS
  rw [dSum_N hG.1, ec, e]
  exact nI_sub (by omega)
theorem rst_N {tr : TR} (hT : TV tr) (hG : GB tr) : rstS tr.1 tr.2.1 = nI (rN tr) ∧ rN tr ≤ 1000 := by
  obtain ⟨lo, l1, l2, e, ec⟩ := hT.lo
  have h2 := hG.2
  unfold rstS rN
  refine ⟨?_, by omega⟩
  rw [dSum_N hG.1, bsN_all tr.2.1 hT.ds, ec, e]
  exact nI_sub (by omega)
/-- no period has less than nothing, or more than the one before it -/
theorem lot_ge {tr : TR} (hT : TV tr) (hG : GB tr) (bf : Nat → Int32) (k : Nat) : ¬ lotS tr.1 tr.2.1 bf k < 0 := by
  obtain ⟨lo, l1, l2, e, ec⟩ := hT.lo
  rw [lot_N hT hG]
  exact nI_pos (by omega)
theorem lot_mono {tr : TR} (hT : TV tr) (hG : GB tr) (bf : Nat → Int32) {j k : Nat} (h : bf j ≤ bf k) : lotS tr.1 tr.2.1 bf k ≤ lotS tr.1 tr.2.1 bf j := by
  obtain ⟨lo, l1, l2, e, ec⟩ := hT.lo
  have h1 := bsN_mono h tr.2.1
  rw [lot_N hT hG, lot_N hT hG]
  exact nI_le (by omega) (by omega)
/-- a break of w lots -/
theorem GB.brk {tr : TR} {d : Int32} {w : Nat} (hT : TV tr) (hG : GB tr) (h1 : 1 ≤ w) (h2 : w ≤ rN tr) : GB (brT tr d (nI w)) ∧ rN (brT tr d (nI w)) = rN tr - w := by
  obtain ⟨lo, l1, l2, e, ec⟩ := hT.lo
  have h3 := hG.2
  have h4 := (rst_N hT hG).2
  have hb : bsA (brT tr d (nI w)).2.1 = bsA tr.2.1 + w := by
    show bsA (tr.2.1 ++ [(d, nI w)]) = _
    rw [bsA_app, nI_clamp (by omega)]
  have h5 : (brT tr d (nI w)).1 = tr.1 := rfl
  refine ⟨⟨fun x hx => ?_, ?_⟩, ?_⟩
  · rcases List.mem_append.mp (show x ∈ tr.2.1 ++ [(d, nI w)] from hx) with c | c
    · exact hG.1 x c
    · rw [List.mem_singleton.mp c]; exact ⟨w, h1, by omega, rfl⟩
  · rw [hb, h5]; unfold rN at h2; omega
  · unfold rN; rw [hb, h5]; omega
/-- what both of a pair lose -/
theorem mn_N {tr ur : TR} (hT : TV tr) (hG : GB tr) (hU : TV ur) (hH : GB ur) : mnR tr ur = nI (min (rN tr) (rN ur)) := by
  obtain ⟨a1, a2⟩ := rst_N hT hG
  obtain ⟨b1, b2⟩ := rst_N hU hH
  unfold mnR
  rw [a1, b1]
  by_cases c : rN tr < rN ur
  · rw [if_pos (nI_lt c (by omega)), Nat.min_eq_left (by omega)]
  · rw [if_neg (nI_nlt (by omega) (by omega)), Nat.min_eq_right (by omega)]
theorem mn_pos {tr ur : TR} (hT : TV tr) (hG : GB tr) (hU : TV ur) (hH : GB ur) : 0 < mnR tr ur ↔ (1 ≤ rN tr ∧ 1 ≤ rN ur) := by
  have a2 := (rst_N hT hG).2
  have b2 := (rst_N hU hH).2
  rw [mn_N hT hG hU hH]
  have e : (0 : Int32) < nI (min (rN tr) (rN ur)) ↔ 0 < min (rN tr) (rN ur) := nI_ltI (a := 0) (by omega) (by omega)
  rw [e]
  omega
/-! a pressing keeps what each step keeps -/
theorem pin_ind {I : PS → Prop} {h0 h1 : Dy} {day : Int32} {n i : Nat} (step : ∀ j P, i < j → j < n → I P → I (pst h0 h1 day i j P)) : ∀ r j P, i < j → j + r ≤ n → I P → I (pin h0 h1 day i r j P)
  | 0, _, _, _, _, h => h
  | r + 1, j, P, h1', h2, h => pin_ind step r (j + 1) _ (by omega) (by omega) (step j P h1' (by omega) h)
theorem pou_ind {I : PS → Prop} {h0 h1 : Dy} {day : Int32} {n : Nat} (step : ∀ i j P, i < j → j < n → I P → I (pst h0 h1 day i j P)) : ∀ r i P, i + r ≤ n → I P → I (pou h0 h1 day n r i P)
  | 0, _, _, _, h => h
  | r + 1, i, P, h2, h => pou_ind step r (i + 1) _ (by omega) (pin_ind (fun j P => step i j P) (n - (i + 1)) (i + 1) P (by omega) (by omega) h)
theorem prs_ind {I : PS → Prop} {h0 h1 : Dy} {day : Int32} {ts : List TR} (step : ∀ i j P, i < j → j < ts.length → I P → I (pst h0 h1 day i j P)) (h : I (ts, 0, 0, [])) : I (prs h0 h1 day ts) := pou_ind step ts.length 0 _ (by omega) h
/-- the trades all along it -/
def GP (P : PS) : Prop := ∀ tr ∈ P.1, TV tr ∧ GB tr
def leT (tr' tr : TR) : Prop := tr'.1 = tr.1 ∧ tr'.2.2 = tr.2.2 ∧ rN tr' ≤ rN tr
theorem leT.rf {tr : TR} : leT tr tr := ⟨rfl, rfl, Nat.le_refl _⟩
theorem leT.br {tr : TR} {d : Int32} {w : Nat} (hT : TV tr) (hG : GB tr) (h1 : 1 ≤ w) (h2 : w ≤ rN tr) : leT (brT tr d (nI w)) tr := ⟨rfl, rfl, by rw [(GB.brk hT hG h1 h2).2]; omega⟩
/-- one step: no pair, or a pair broken -/
theorem pst_or {h0 h1 : Dy} {day : Int32} {i j : Nat} {P : PS} (hP : GP P) : pst h0 h1 day i j P = P ∨ ∃ tr ur w, P.1[i]? = some tr ∧ P.1[j]? = some ur ∧ (fitS tr.1 ur.1 && smeS tr.1 ur.1 tr.2.2 ur.2.2 (bfC h0 h1 tr.1) day (np tr)) = true ∧ mnR tr ur = nI w ∧ 1 ≤ w ∧ w ≤ rN tr ∧ w ≤ rN ur ∧ (w = rN tr ∨ w = rN ur) ∧ pst h0 h1 day i j P = ((P.1.set i (brT tr day (nI w))).set j (brT ur day (nI w)), P.2.1 + nI w, P.2.2.1 + 1, P.2.2.2 ++ [(nI i, day, nI w), (nI j, day, nI w)]) := by
  cases hi : P.1[i]? with
  | none => left; unfold pst; rw [hi]
  | some tr =>
    cases hj : P.1[j]? with
    | none => left; unfold pst; rw [hi, hj]
    | some ur =>
      rw [pst_at hi hj]
      obtain ⟨hT, hG⟩ := hP tr (List.mem_of_getElem? hi)
      obtain ⟨hU, hH⟩ := hP ur (List.mem_of_getElem? hj)
      cases c : prD h0 h1 day tr ur with
      | false => left; rw [if_neg (by decide)]
      | true =>
        right
        have c9 := c
        unfold prD at c9
        obtain ⟨c1, c2⟩ := Bool.and_eq_true_iff.mp c9
        have c2 := (mn_pos hT hG hU hH).mp (of_decide_eq_true c2)
        have em := mn_N hT hG hU hH
        refine ⟨tr, ur, min (rN tr) (rN ur), rfl, rfl, c1, em, by omega, by omega, by omega, by omega, ?_⟩
        rw [if_pos rfl, em]
theorem pst_gp {h0 h1 : Dy} {d : Nat} {i j : Nat} {P : PS} (hd : d ≤ 3000) (hP : GP P) : GP (pst h0 h1 (nI d) i j P) := by
  rcases pst_or (h0 := h0) (h1 := h1) (day := nI d) (i := i) (j := j) hP with e | ⟨tr, ur, w, hi, hj, c, em, w1, w2, w3, w4, e⟩
  · rw [e]; exact hP
  · rw [e]
    obtain ⟨hT, hG⟩ := hP tr (List.mem_of_getElem? hi)
    obtain ⟨hU, hH⟩ := hP ur (List.mem_of_getElem? hj)
    intro y hy
    rcases List.mem_or_eq_of_mem_set hy with hy | e
    · rcases List.mem_or_eq_of_mem_set hy with hy | e
      · exact hP y hy
      · rw [e]; exact ⟨hT.brT hd _, (GB.brk hT hG w1 w2).1⟩
    · rw [e]; exact ⟨hU.brT hd _, (GB.brk hU hH w1 w3).1⟩
/-- each trade behind a step comes of the one in its place -/
theorem pst_le {h0 h1 : Dy} {day : Int32} {i j : Nat} {P : PS} (hij : i < j) (hP : GP P) {a : Nat} {tr' : TR} (ha : (pst h0 h1 day i j P).1[a]? = some tr') : ∃ tr, P.1[a]? = some tr ∧ leT tr' tr := by
  rcases pst_or (h0 := h0) (h1 := h1) (day := day) (i := i) (j := j) hP with e | ⟨tr, ur, w, hi, hj, c, em, w1, w2, w3, w4, e⟩
  · rw [e] at ha; exact ⟨tr', ha, leT.rf⟩
  · rw [e] at ha
    obtain ⟨hT, hG⟩ := hP tr (List.mem_of_getElem? hi)
    obtain ⟨hU, hH⟩ := hP ur (List.mem_of_getElem? hj)
    rcases set_at ha with ⟨q1, q2, -⟩ | ⟨q1, ha⟩
    · subst q1 q2; exact ⟨ur, hj, leT.br hU hH w1 w3⟩
    · rcases set_at ha with ⟨q2, q3, -⟩ | ⟨q2, ha⟩
      · subst q2 q3; exact ⟨tr, hi, leT.br hT hG w1 w2⟩
      · exact ⟨tr', ha, leT.rf⟩
/-- a pair that can't be broken any more -/
def dead (h0 h1 : Dy) (day : Int32) (P : PS) (i j : Nat) : Prop := ∀ tr ur, P.1[i]? = some tr → P.1[j]? = some ur → prD h0 h1 day tr ur = false
theorem prD_no {h0 h1 : Dy} {day : Int32} {tr ur : TR} (h : ¬ 0 < mnR tr ur) : prD h0 h1 day tr ur = false := by
  unfold prD
  rw [decide_eq_false h, Bool.and_false]
theorem dead_le {h0 h1 : Dy} {day : Int32} {tr ur tr' ur' : TR} (h : prD h0 h1 day tr ur = false) (hT : TV tr ∧ GB tr) (hU : TV ur ∧ GB ur) (hT' : TV tr' ∧ GB tr') (hU' : TV ur' ∧ GB ur') (a : leT tr' tr) (b : leT ur' ur) : prD h0 h1 day tr' ur' = false := by
  by_cases c : 0 < mnR tr' ur'
  · have c1 := (mn_pos hT'.1 hT'.2 hU'.1 hU'.2).mp c
    have c2 : 0 < mnR tr ur := (mn_pos hT.1 hT.2 hU.1 hU.2).mpr ⟨Nat.le_trans c1.1 a.2.2, Nat.le_trans c1.2 b.2.2⟩
    unfold prD at h ⊢
    rw [decide_eq_true c2, Bool.and_true] at h
    rw [decide_eq_true c, Bool.and_true, a.1, b.1, a.2.1, b.2.1]
    rw [show np tr' = np tr by unfold np; rw [a.1]]
    exact h
  · exact prD_no c
theorem pst_keep {h0 h1 : Dy} {d i j a b : Nat} {P : PS} (hd : d ≤ 3000) (hij : i < j) (hP : GP P) (h : dead h0 h1 (nI d) P a b) : dead h0 h1 (nI d) (pst h0 h1 (nI d) i j P) a b := by
  intro tr' ur' ha hb
  obtain ⟨tr, h1', l1⟩ := pst_le hij hP ha
  obtain ⟨ur, h2', l2⟩ := pst_le hij hP hb
  have hP' := pst_gp (h0 := h0) (h1 := h1) (i := i) (j := j) hd hP
  exact dead_le (h tr ur h1' h2') (hP tr (List.mem_of_getElem? h1')) (hP ur (List.mem_of_getElem? h2')) (hP' tr' (List.mem_of_getElem? ha)) (hP' ur' (List.mem_of_getElem? hb)) l1 l2
theorem pst_self {h0 h1 : Dy} {d i j : Nat} {P : PS} (hd : d ≤ 3000) (hij : i < j) (hP : GP P) : dead h0 h1 (nI d) (pst h0 h1 (nI d) i j P) i j := by
  intro tr' ur' ha hb
  have hP' := pst_gp (h0 := h0) (h1 := h1) (i := i) (j := j) hd hP
  have hT' := hP' tr' (List.mem_of_getElem? ha)
  have hU' := hP' ur' (List.mem_of_getElem? hb)
  rcases pst_or (h0 := h0) (h1 := h1) (day := nI d) (i := i) (j := j) hP with e | ⟨tr, ur, w, hi, hj, c, em, w1, w2, w3, w4, e⟩
  · rw [e] at ha hb
    cases c : prD h0 h1 (nI d) tr' ur' with
    | false => rfl
    | true =>
      exfalso
      rw [pst_at ha hb, if_pos c] at e
      have e2 : P.2.2.1 + 1 = P.2.2.1 := congrArg (fun q : PS => q.2.2.1) e
      omega
  · obtain ⟨hT, hG⟩ := hP tr (List.mem_of_getElem? hi)
    obtain ⟨hU, hH⟩ := hP ur (List.mem_of_getElem? hj)
    rw [e] at ha hb
    have hlj : j < (P.1.set i (brT tr (nI d) (nI w))).length := by rw [List.length_set]; exact lt_of_get hj
    have hb' : ((P.1.set i (brT tr (nI d) (nI w))).set j (brT ur (nI d) (nI w)))[j]? = some ur' := hb
    rw [List.getElem?_set_self hlj] at hb'
    have ha' : ((P.1.set i (brT tr (nI d) (nI w))).set j (brT ur (nI d) (nI w)))[i]? = some tr' := ha
    rw [List.getElem?_set_ne (by omega), List.getElem?_set_self (lt_of_get hi)] at ha'
    cases ha'
    cases hb'
    refine prD_no (fun q => ?_)
    have q := (mn_pos hT'.1 hT'.2 hU'.1 hU'.2).mp q
    rw [(GB.brk hT hG w1 w2).2, (GB.brk hU hH w1 w3).2] at q
    omega
/-- behind a pressing no pair can be broken -/
theorem pin_dead {h0 h1 : Dy} {d i : Nat} (hd : d ≤ 3000) : ∀ r j P, i < j → GP P → GP (pin h0 h1 (nI d) i r j P) ∧ (∀ a b, dead h0 h1 (nI d) P a b → dead h0 h1 (nI d) (pin h0 h1 (nI d) i r j P) a b) ∧ (∀ q, j ≤ q → q < j + r → dead h0 h1 (nI d) (pin h0 h1 (nI d) i r j P) i q)
  | 0, j, P, _, hP => ⟨hP, fun _ _ h => h, fun q a b => by omega⟩
  | r + 1, j, P, hij, hP => by
    have hP1 := pst_gp (h0 := h0) (h1 := h1) (i := i) (j := j) hd hP
    obtain ⟨a1, a2, a3⟩ := pin_dead (h0 := h0) (h1 := h1) (i := i) hd r (j + 1) (pst h0 h1 (nI d) i j P) (by omega) hP1
    refine ⟨a1, fun a b h => a2 a b (pst_keep hd hij hP h), fun q q1 q2 => ?_⟩
    rcases Nat.eq_or_lt_of_le q1 with e | e
    · subst e; exact a2 _ _ (pst_self hd hij hP)
    · exact a3 q e (by omega)
theorem pou_dead {h0 h1 : Dy} {d n : Nat} (hd : d ≤ 3000) : ∀ r i P, i + r = n → GP P → GP (pou h0 h1 (nI d) n r i P) ∧ (∀ a b, dead h0 h1 (nI d) P a b → dead h0 h1 (nI d) (pou h0 h1 (nI d) n r i P) a b) ∧ (∀ p q, i ≤ p → p < q → q < n → dead h0 h1 (nI d) (pou h0 h1 (nI d) n r i P) p q)
  | 0, i, P, hr, hP => ⟨hP, fun _ _ h => h, fun p q a b c => by omega⟩
  | r + 1, i, P, hr, hP => by
    obtain ⟨b1, b2, b3⟩ := pin_dead (h0 := h0) (h1 := h1) (i := i) hd (n - (i + 1)) (i + 1) P (by omega) hP
    obtain ⟨a1, a2, a3⟩ := pou_dead (h0 := h0) (h1 := h1) (n := n) hd r (i + 1) (pin h0 h1 (nI d) i (n - (i + 1)) (i + 1) P) (by omega) b1
    refine ⟨a1, fun a b h => a2 a b (b2 a b h), fun p q q1 q2 q3 => ?_⟩
    rcases Nat.eq_or_lt_of_le q1 with e | e
    · subst e; exact a2 _ _ (b3 q (by omega) (by omega))
    · exact a3 p q e q2 q3
theorem pst_dead {h0 h1 : Dy} {day : Int32} {i j : Nat} {P : PS} (h : dead h0 h1 day P i j) : pst h0 h1 day i j P = P := by
  unfold pst
  split
  · rename_i tr ur hi hj
    rw [if_neg (by rw [h tr ur hi hj]; decide)]
  · rfl
theorem pin_no {h0 h1 : Dy} {day : Int32} {i : Nat} {P : PS} : ∀ r j, (∀ q, j ≤ q → q < j + r → dead h0 h1 day P i q) → pin h0 h1 day i r j P = P
  | 0, _, _ => rfl
  | r + 1, j, h => by
    show pin h0 h1 day i r (j + 1) (pst h0 h1 day i j P) = P
    rw [pst_dead (h j (Nat.le_refl _) (by omega))]
    exact pin_no r (j + 1) (fun q a b => h q (by omega) (by omega))
theorem pou_no {h0 h1 : Dy} {day : Int32} {n : Nat} {P : PS} : ∀ r i, i + r = n → (∀ p q, i ≤ p → p < q → q < n → dead h0 h1 day P p q) → pou h0 h1 day n r i P = P
  | 0, _, _, _ => rfl
  | r + 1, i, hr, h => by
    show pou h0 h1 day n r (i + 1) (pin h0 h1 day i (n - (i + 1)) (i + 1) P) = P
    rw [pin_no _ _ (fun q a b => h i q (Nat.le_refl _) (by omega) (by omega))]
    exact pou_no r (i + 1) (by omega) (fun p q a b c => h p q (by omega) b c)
theorem prs_len {h0 h1 : Dy} {day : Int32} {ts : List TR} : (prs h0 h1 day ts).1.length = ts.length := prs_ind (I := fun P => P.1.length = ts.length) (fun i j P _ _ h => by
  unfold pst
  split
  · split
    · show ((P.1.set i _).set j _).length = _
      rw [List.length_set, List.length_set]; exact h
    · exact h
  · exact h) rfl
/-- pressing once more for the day breaks nothing -/
theorem prs_two {h0 h1 : Dy} {d : Nat} {ts : List TR} (hd : d ≤ 3000) (hP : ∀ tr ∈ ts, TV tr ∧ GB tr) : prs h0 h1 (nI d) (prs h0 h1 (nI d) ts).1 = ((prs h0 h1 (nI d) ts).1, 0, 0, []) := by
  obtain ⟨-, -, a3⟩ := pou_dead (h0 := h0) (h1 := h1) (n := ts.length) hd ts.length 0 (ts, 0, 0, []) (by omega) hP
  show pou h0 h1 (nI d) (prs h0 h1 (nI d) ts).1.length (prs h0 h1 (nI d) ts).1.length 0 _ = _
  rw [prs_len]
  exact pou_no ts.length 0 (by omega) (fun p q x1 x2 x3 tr ur h1' h2' => a3 p q x1 x2 x3 tr ur h1' h2')
