/-! pressing changes no party's cash -/
theorem fitS_eq {T U : Nat → Int32} (h : fitS T U = true) : ¬ T 2 = U 2 ∧ T 3 = U 3 ∧ T 7 = U 7 ∧ T 4 = U 4 ∧ T 5 = U 5 ∧ T 6 = U 6 ∧ T 8 = U 8 ∧ T 9 = U 9 := by
  unfold fitS at h
  simp only [Bool.and_eq_true, decide_eq_true_eq] at h
  exact h
theorem bfC_fit {h0 h1 : Dy} {T U : Nat → Int32} (h4 : T 4 = U 4) (h5 : T 5 = U 5) (h6 : T 6 = U 6) : bfC h0 h1 T = bfC h0 h1 U := by
  funext k
  unfold bfC
  rw [h4, h5, h6]
theorem dys_fit {T U : Nat → Int32} {bf : Nat → Int32} (h5 : T 5 = U 5) (h8 : T 8 = U 8) (k : Nat) : dys T bf k = dys U bf k := by
  unfold dys
  rw [h5, h8]
theorem flS_fit {T U : Nat → Int32} {bf : Nat → Int32} {fx : Dy} (h5 : T 5 = U 5) (h7 : T 7 = U 7) (h8 : T 8 = U 8) (h9 : T 9 = U 9) : ∀ k, flS T bf fx k = flS U bf fx k
  | 0 => rfl
  | k + 1 => by
    unfold flS
    rw [flS_fit h5 h7 h8 h9 k, dys_fit h5 h8 k, h7, h9]
theorem gnS_fit {T U : Nat → Int32} {bf : Nat → Int32} {fx : Dy} (h3 : T 3 = U 3) (h5 : T 5 = U 5) (h7 : T 7 = U 7) (h8 : T 8 = U 8) (h9 : T 9 = U 9) (k : Nat) : gnS T bf fx k = gnS U bf fx k := by
  unfold gnS fltS
  rw [flS_fit h5 h7 h8 h9 (k + 1), dys_fit h5 h8 k, h3]
theorem sme_at {T U : Nat → Int32} {hs hu : Dy} {bf : Nat → Int32} {day : Int32} {n : Nat} (h : smeS T U hs hu bf day n = true) {k : Nat} (hk : k < n) (hd : day ≤ bf k) : hldS T hs (bf (k + 1)) = hldS U hu (bf (k + 1)) := by
  have h2 : (smpS T U hs hu bf day n).2 = true := (Bool.and_eq_true_iff.mp h).2
  have h3 : (smpS T U hs hu bf day (k + 1)).2 = true := by
    cases c : (smpS T U hs hu bf day (k + 1)).2 with
    | true => rfl
    | false => rw [smpS_f c n hk] at h2; exact h2
  unfold smpS at h3
  rw [if_pos hd] at h3
  exact of_decide_eq_true (Bool.and_eq_true_iff.mp h3).2
theorem lot_br {T : Nat → Int32} {bs : Dy} {bf : Nat → Int32} {d v : Int32} {k : Nat} : lotS T (bs ++ [(d, v)]) bf k = if d ≤ bf k then lotS T bs bf k - v else lotS T bs bf k := by
  unfold lotS dSum
  rw [smL_app]
  by_cases c : d ≤ bf k
  · rw [if_pos c, if_pos c, Int32.sub_sub]
  · rw [if_neg c, if_neg c]
theorem i64_no (a w g : Int64) : (a - w) * g = a * g - w * g := Int64.sub_mul
/-- a break's flows: w times the gain less -/
theorem flw_br {tr : TR} {bf : Nat → Int32} {fx : Dy} {d : Int32} {w k : Nat} (hT : TV tr) (hG : GB tr) (h2 : w ≤ rN tr) : flwS tr.1 (tr.2.1 ++ [(d, nI w)]) bf fx k = if d ≤ bf k then flwS tr.1 tr.2.1 bf fx k - lN w * (if tr.1 2 = 0 then -(gnS tr.1 bf fx k) else gnS tr.1 bf fx k) else flwS tr.1 tr.2.1 bf fx k := by
  obtain ⟨lo, l1, l2, e, ec⟩ := hT.lo
  have h4 := bsN_le (bf k) tr.2.1
  have h3 := hG.2
  unfold flwS
  rw [lot_br]
  by_cases c : d ≤ bf k
  · rw [if_pos c, if_pos c, lot_N hT hG]
    unfold rN at h2
    rw [nI_sub (by omega), nI_l (by omega), nI_l (by omega), ← lN_sub (b := w) (by omega)]
    exact i64_no _ _ _
  · rw [if_neg c, if_neg c]
theorem i64_pr (a b w g : Int64) : a - w * g + (b - w * -g) = a + b := by
  rw [Int64.mul_neg]
  grind
theorem i64_pr2 (a b w g : Int64) : a - w * -g + (b - w * g) = a + b := by
  rw [Int64.mul_neg]
  grind
/-- both flows of a pair together are as before -/
theorem flw_pair {tr ur : TR} {bf : Nat → Int32} {fx : Dy} {d : Int32} {w k : Nat} (hT : TV tr) (hG : GB tr) (hU : TV ur) (hH : GB ur) (h1 : w ≤ rN tr) (h2 : w ≤ rN ur) (hf : fitS tr.1 ur.1 = true) (c : d ≤ bf k) : flwS tr.1 (tr.2.1 ++ [(d, nI w)]) bf fx k + flwS ur.1 (ur.2.1 ++ [(d, nI w)]) bf fx k = flwS tr.1 tr.2.1 bf fx k + flwS ur.1 ur.2.1 bf fx k := by
  obtain ⟨f2, f3, f7, f4, f5, f6, f8, f9⟩ := fitS_eq hf
  rw [flw_br hT hG h1, flw_br hU hH h2, if_pos c, if_pos c, gnS_fit f3 f5 f7 f8 f9 k]
  rcases hT.pf with e | e <;> rcases hU.pf with e2 | e2
  · exact absurd (e.trans e2.symm) f2
  · rw [if_pos e, if_neg (by rw [e2]; decide)]; exact i64_pr2 _ _ _ _
  · rw [if_neg (by rw [e]; decide), if_pos e2]; exact i64_pr _ _ _ _
  · exact absurd (e.trans e2.symm) f2
theorem i64_b {a b c d x y z w : Int64} (h : a + b = c + d) (h2 : x + y = z + w) : (a + x) + (b + y) = (c + z) + (d + w) := by
  have e1 : (a + x) + (b + y) = (a + b) + (x + y) := by ac_rfl
  have e2 : (c + z) + (d + w) = (c + d) + (z + w) := by ac_rfl
  rw [e1, e2, h, h2]
theorem i64_c {a b c d x : Int64} (h : a + b = c + d) : (a + x) + b = (c + x) + d := by
  have e1 : (a + x) + b = (a + b) + x := by ac_rfl
  have e2 : (c + x) + d = (c + d) + x := by ac_rfl
  rw [e1, e2, h]
theorem i64_d {a b c d x : Int64} (h : a + b = c + d) : a + (b + x) = c + (d + x) := by
  have e1 : a + (b + x) = (a + b) + x := by ac_rfl
  have e2 : c + (d + x) = (c + d) + x := by ac_rfl
  rw [e1, e2, h]
theorem csh_pair {tr ur : TR} {bf : Nat → Int32} {fx : Dy} {d pa d1 d2 : Int32} {w n : Nat} (hT : TV tr) (hG : GB tr) (hU : TV ur) (hH : GB ur) (h1 : w ≤ rN tr) (h2 : w ≤ rN ur) (hf : fitS tr.1 ur.1 = true) (hs : smeS tr.1 ur.1 tr.2.2 ur.2.2 bf d n = true) : ∀ k, k ≤ n → cshS tr.1 (tr.2.1 ++ [(d, nI w)]) tr.2.2 bf fx pa d1 d2 k + cshS ur.1 (ur.2.1 ++ [(d, nI w)]) ur.2.2 bf fx pa d1 d2 k = cshS tr.1 tr.2.1 tr.2.2 bf fx pa d1 d2 k + cshS ur.1 ur.2.1 ur.2.2 bf fx pa d1 d2 k
  | 0, _ => rfl
  | k + 1, hk => by
    have ih := csh_pair (fx := fx) (pa := pa) (d1 := d1) (d2 := d2) hT hG hU hH h1 h2 hf hs k (by omega)
    unfold cshS
    by_cases c : d ≤ bf k
    · have hh := sme_at hs (k := k) (by omega) c
      by_cases cT : d1 ≤ bf (k + 1) ∧ bf (k + 1) ≤ d2 ∧ hldS tr.1 tr.2.2 (bf (k + 1)) = pa
      · have cU : d1 ≤ bf (k + 1) ∧ bf (k + 1) ≤ d2 ∧ hldS ur.1 ur.2.2 (bf (k + 1)) = pa := ⟨cT.1, cT.2.1, hh ▸ cT.2.2⟩
        rw [if_pos cT, if_pos cU, if_pos cT, if_pos cU]
        exact i64_b ih (flw_pair hT hG hU hH h1 h2 hf c)
      · have cU : ¬ (d1 ≤ bf (k + 1) ∧ bf (k + 1) ≤ d2 ∧ hldS ur.1 ur.2.2 (bf (k + 1)) = pa) := fun q => cT ⟨q.1, q.2.1, hh.trans q.2.2⟩
        rw [if_neg cT, if_neg cU, if_neg cT, if_neg cU]
        exact ih
    · rw [flw_br hT hG h1, flw_br hU hH h2, if_neg c, if_neg c]
      by_cases cT : d1 ≤ bf (k + 1) ∧ bf (k + 1) ≤ d2 ∧ hldS tr.1 tr.2.2 (bf (k + 1)) = pa <;> by_cases cU : d1 ≤ bf (k + 1) ∧ bf (k + 1) ≤ d2 ∧ hldS ur.1 ur.2.2 (bf (k + 1)) = pa
      · rw [if_pos cT, if_pos cU, if_pos cT, if_pos cU]; exact i64_b ih rfl
      · rw [if_pos cT, if_neg cU, if_pos cT, if_neg cU]; exact i64_c ih
      · rw [if_neg cT, if_pos cU, if_neg cT, if_pos cU]; exact i64_d ih
      · rw [if_neg cT, if_neg cU, if_neg cT, if_neg cU]; exact ih
theorem sumS_set {h0 h1 fx : Dy} {pa d1 d2 : Int32} {x tr : TR} : ∀ (ts : List TR) (i : Nat), ts[i]? = some tr → sumS h0 h1 fx pa d1 d2 0 (ts.set i x) + csh1 h0 h1 fx pa d1 d2 tr = sumS h0 h1 fx pa d1 d2 0 ts + csh1 h0 h1 fx pa d1 d2 x
  | [], i, ht => by cases i <;> cases ht
  | t :: ts, 0, ht => by
    cases ht
    show sumS h0 h1 fx pa d1 d2 0 (x :: ts) + _ = _
    rw [sumS_c0, sumS_c0]
    ac_rfl
  | t :: ts, i + 1, ht => by
    have ih := sumS_set (h0 := h0) (h1 := h1) (fx := fx) (pa := pa) (d1 := d1) (d2 := d2) (x := x) ts i ht
    show sumS h0 h1 fx pa d1 d2 0 (t :: ts.set i x) + _ = _
    rw [sumS_c0, sumS_c0, Int64.add_assoc, ih, Int64.add_assoc]
theorem i64_can {S0 S1 S2 a b a' b' : Int64} (h1 : S1 + a = S0 + a') (h2 : S2 + b = S1 + b') (h : a' + b' = a + b) : S2 = S0 := by
  have e : S2 + (a + b) = S0 + (a + b) := by
    have e1 : S2 + (a + b) = (S2 + b) + a := by ac_rfl
    have e2 : S1 + b' + a = (S1 + a) + b' := by ac_rfl
    rw [e1, h2, e2, h1, Int64.add_assoc, h]
  exact (Int64.add_left_inj _).mp e
/-- one step -/
theorem pst_cash {h0 h1 fx : Dy} {pa d1 d2 day : Int32} {i j : Nat} {P : PS} (hij : i < j) (hP : GP P) : sumS h0 h1 fx pa d1 d2 0 (pst h0 h1 day i j P).1 = sumS h0 h1 fx pa d1 d2 0 P.1 := by
  rcases pst_or (h0 := h0) (h1 := h1) (day := day) (i := i) (j := j) hP with e | ⟨tr, ur, w, hi, hj, c, em, w1, w2, w3, w4, e⟩
  · rw [e]
  · rw [e]
    obtain ⟨hT, hG⟩ := hP tr (List.mem_of_getElem? hi)
    obtain ⟨hU, hH⟩ := hP ur (List.mem_of_getElem? hj)
    obtain ⟨c1, c2⟩ := Bool.and_eq_true_iff.mp c
    obtain ⟨f2, f3, f7, f4, f5, f6, f8, f9⟩ := fitS_eq c1
    have hj2 : (P.1.set i (brT tr day (nI w)))[j]? = some ur := by rw [List.getElem?_set_ne (by omega)]; exact hj
    have a1 := sumS_set (h0 := h0) (h1 := h1) (fx := fx) (pa := pa) (d1 := d1) (d2 := d2) (x := brT tr day (nI w)) P.1 i hi
    have a2 := sumS_set (h0 := h0) (h1 := h1) (fx := fx) (pa := pa) (d1 := d1) (d2 := d2) (x := brT ur day (nI w)) (P.1.set i (brT tr day (nI w))) j hj2
    refine i64_can a1 a2 ?_
    have en : np ur = np tr := by unfold np; rw [f6]
    show cshS tr.1 (tr.2.1 ++ [(day, nI w)]) tr.2.2 (bfC h0 h1 tr.1) fx pa d1 d2 (np tr) + cshS ur.1 (ur.2.1 ++ [(day, nI w)]) ur.2.2 (bfC h0 h1 ur.1) fx pa d1 d2 (np ur) = cshS tr.1 tr.2.1 tr.2.2 (bfC h0 h1 tr.1) fx pa d1 d2 (np tr) + cshS ur.1 ur.2.1 ur.2.2 (bfC h0 h1 ur.1) fx pa d1 d2 (np ur)
    rw [en, ← bfC_fit f4 f5 f6]
    exact csh_pair hT hG hU hH w2 w3 c1 c2 _ (Nat.le_refl _)
/-- the trades that the law makes -/
def GT (tr : TR) : Prop := GB tr ∧ HV tr ∧ np tr ≤ 5 ∧ ∃ f, f ≤ 14 ∧ tr.1 4 = nI f ∧ tr.1 5 = 30
theorem GT.br {tr : TR} {d : Int32} {w : Nat} (hT : TV tr) (h : GT tr) (h1 : 1 ≤ w) (h2 : w ≤ rN tr) : GT (brT tr d (nI w)) := ⟨(GB.brk hT h.1 h1 h2).1, h.2⟩
/-- a pressing: the trades stay good, no cash changes, what is pressed is not below 0 -/
theorem prs_all {h0 h1 fx : Dy} {d : Nat} {ts : List TR} (hd : d ≤ 3000) (hP : ∀ tr ∈ ts, TV tr ∧ GT tr) : (∀ tr ∈ (prs h0 h1 (nI d) ts).1, TV tr ∧ GT tr) ∧ (∀ pa d1 d2, sumS h0 h1 fx pa d1 d2 0 (prs h0 h1 (nI d) ts).1 = sumS h0 h1 fx pa d1 d2 0 ts) ∧ (∃ q, (prs h0 h1 (nI d) ts).2.1 = nI q ∧ q ≤ 1000 * (prs h0 h1 (nI d) ts).2.2.1) ∧ (∀ (a : Nat) (tr' : TR), (prs h0 h1 (nI d) ts).1[a]? = some tr' → ∃ tr, ts[a]? = some tr ∧ leT tr' tr) :=
  prs_ind (I := fun P => (∀ tr ∈ P.1, TV tr ∧ GT tr) ∧ (∀ pa d1 d2, sumS h0 h1 fx pa d1 d2 0 P.1 = sumS h0 h1 fx pa d1 d2 0 ts) ∧ (∃ q, P.2.1 = nI q ∧ q ≤ 1000 * P.2.2.1) ∧ (∀ (a : Nat) (tr' : TR), P.1[a]? = some tr' → ∃ tr, ts[a]? = some tr ∧ leT tr' tr)) (fun i j P hij hjn h => by
    obtain ⟨b1, b2, ⟨q, b3, b4⟩, b5⟩ := h
    have hP1 : GP P := fun tr ht => ⟨(b1 tr ht).1, (b1 tr ht).2.1⟩
    refine ⟨?_, fun pa d1 d2 => (pst_cash hij hP1).trans (b2 pa d1 d2), ?_, fun a tr' ha => ?_⟩
    · rcases pst_or (h0 := h0) (h1 := h1) (day := nI d) (i := i) (j := j) hP1 with e | ⟨tr, ur, w, hi, hj, c, em, w1, w2, w3, w4, e⟩
      · rw [e]; exact b1
      · rw [e]
        obtain ⟨hT, hG⟩ := b1 tr (List.mem_of_getElem? hi)
        obtain ⟨hU, hH⟩ := b1 ur (List.mem_of_getElem? hj)
        intro y hy
        rcases List.mem_or_eq_of_mem_set hy with hy | e
        · rcases List.mem_or_eq_of_mem_set hy with hy | e
          · exact b1 y hy
          · rw [e]; exact ⟨hT.brT hd _, hG.br hT w1 w2⟩
        · rw [e]; exact ⟨hU.brT hd _, hH.br hU w1 w3⟩
    · rcases pst_or (h0 := h0) (h1 := h1) (day := nI d) (i := i) (j := j) hP1 with e | ⟨tr, ur, w, hi, hj, c, em, w1, w2, w3, w4, e⟩
      · rw [e]; exact ⟨q, b3, b4⟩
      · rw [e]
        have h9 := (rst_N (b1 tr (List.mem_of_getElem? hi)).1 (b1 tr (List.mem_of_getElem? hi)).2.1).2
        refine ⟨q + w, ?_, ?_⟩
        · show P.2.1 + nI w = _
          rw [b3, nI_add]
        · show q + w ≤ 1000 * (P.2.2.1 + 1)
          omega
    · obtain ⟨t1, ht1, l1⟩ := pst_le hij hP1 ha
      obtain ⟨t2, ht2, l2⟩ := b5 a t1 ht1
      exact ⟨t2, ht2, l1.1.trans l2.1, l1.2.1.trans l2.2.1, Nat.le_trans l1.2.2 l2.2.2⟩) ⟨hP, fun _ _ _ => rfl, ⟨0, rfl, Nat.zero_le _⟩, fun a tr' ha => ⟨tr', ha, leT.rf⟩⟩
