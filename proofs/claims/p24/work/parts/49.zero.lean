/-! the trades with nothing left: a pressing that breaks a pair leaves one more of them -/
theorem smL_app {day : Int32} (d v : Int32) : ∀ (es : Dy) (s : Int32), smL day s (es ++ [(d, v)]) = if d ≤ day then smL day s es + v else smL day s es
  | [], s => by simp only [List.nil_append, smL]
  | x :: xs, s => by
    show smL day s (x :: (xs ++ [(d, v)])) = _
    by_cases c : x.1 ≤ day
    · simp only [smL]; rw [if_pos c, if_pos c]; exact smL_app d v xs _
    · simp only [smL]; rw [if_neg c, if_neg c]; exact smL_app d v xs _
theorem rst_br {tr : TR} {d v : Int32} (hd : d ≤ 3000) : rstS (brT tr d v).1 (brT tr d v).2.1 = rstS tr.1 tr.2.1 - v := by
  show tr.1 1 - smL 3000 0 (tr.2.1 ++ [(d, v)]) = tr.1 1 - smL 3000 0 tr.2.1 - v
  rw [smL_app, if_pos hd, Int32.sub_sub]
def zc : List TR → Nat
  | [] => 0
  | t :: ts => (if rstS t.1 t.2.1 = 0 then 1 else 0) + zc ts
theorem zc_le : ∀ (ts : List TR), zc ts ≤ ts.length
  | [] => Nat.le_refl _
  | t :: ts => by
    have := zc_le ts
    show (if rstS t.1 t.2.1 = 0 then 1 else 0) + zc ts ≤ ts.length + 1
    split <;> omega
theorem zc_app (u : TR) : ∀ (ts : List TR), zc ts ≤ zc (ts ++ [u])
  | [] => Nat.zero_le _
  | t :: ts => by
    have := zc_app u ts
    show (if rstS t.1 t.2.1 = 0 then 1 else 0) + zc ts ≤ (if rstS t.1 t.2.1 = 0 then 1 else 0) + zc (ts ++ [u])
    omega
theorem zc_set {u tr : TR} (h : rstS tr.1 tr.2.1 = 0 → rstS u.1 u.2.1 = 0) : ∀ (ts : List TR) (i : Nat), ts[i]? = some tr → zc ts ≤ zc (ts.set i u)
  | [], i, ht => by cases i <;> cases ht
  | t :: ts, 0, ht => by
    cases ht
    show (if rstS tr.1 tr.2.1 = 0 then 1 else 0) + zc ts ≤ (if rstS u.1 u.2.1 = 0 then 1 else 0) + zc ts
    by_cases c : rstS tr.1 tr.2.1 = 0
    · rw [if_pos c, if_pos (h c)]; exact Nat.le_refl _
    · rw [if_neg c]; omega
  | t :: ts, i + 1, ht => by
    have := zc_set h ts i ht
    show (if rstS t.1 t.2.1 = 0 then 1 else 0) + zc ts ≤ (if rstS t.1 t.2.1 = 0 then 1 else 0) + zc (ts.set i u)
    omega
theorem zc_set1 {u tr : TR} (h : ¬ rstS tr.1 tr.2.1 = 0) (h1 : rstS u.1 u.2.1 = 0) : ∀ (ts : List TR) (i : Nat), ts[i]? = some tr → zc ts + 1 ≤ zc (ts.set i u)
  | [], i, ht => by cases i <;> cases ht
  | t :: ts, 0, ht => by
    cases ht
    show (if rstS tr.1 tr.2.1 = 0 then 1 else 0) + zc ts + 1 ≤ (if rstS u.1 u.2.1 = 0 then 1 else 0) + zc ts
    rw [if_neg h, if_pos h1]; omega
  | t :: ts, i + 1, ht => by
    have := zc_set1 h h1 ts i ht
    show (if rstS t.1 t.2.1 = 0 then 1 else 0) + zc ts + 1 ≤ (if rstS t.1 t.2.1 = 0 then 1 else 0) + zc (ts.set i u)
    omega
theorem mnR_0 {tr ur : TR} (h : 0 < mnR tr ur) : 0 < rstS tr.1 tr.2.1 ∧ 0 < rstS ur.1 ur.2.1 ∧ (mnR tr ur = rstS tr.1 tr.2.1 ∨ mnR tr ur = rstS ur.1 ur.2.1) := by
  unfold mnR at h ⊢
  by_cases c : rstS tr.1 tr.2.1 < rstS ur.1 ur.2.1
  · rw [if_pos c] at h ⊢
    exact ⟨h, Int32.lt_trans h c, Or.inl rfl⟩
  · rw [if_neg c] at h ⊢
    exact ⟨Int32.lt_of_lt_of_le h (Int32.not_lt.mp c), h, Or.inr rfl⟩
theorem gt0_ne {v : Int32} (h : 0 < v) : ¬ v = 0 := fun e => by rw [e] at h; exact absurd h (by decide)
/-- one pair -/
theorem zc_st {h0 h1 : Dy} {day : Int32} {i j : Nat} {P : PS} (hd : day ≤ 3000) (hij : i ≠ j) : zc P.1 + (pst h0 h1 day i j P).2.2.1 ≤ zc (pst h0 h1 day i j P).1 + P.2.2.1 := by
  unfold pst
  split
  · rename_i tr ur hi hj
    split
    · rename_i hp
      have h0m : 0 < mnR tr ur := of_decide_eq_true (Bool.and_eq_true_iff.mp hp).2
      obtain ⟨m1, m2, m3⟩ := mnR_0 h0m
      have hj2 : (P.1.set i (brT tr day (mnR tr ur)))[j]? = some ur := by rw [List.getElem?_set_ne hij]; exact hj
      have hn1 := gt0_ne m1
      have hn2 := gt0_ne m2
      show zc P.1 + (P.2.2.1 + 1) ≤ zc ((P.1.set i (brT tr day (mnR tr ur))).set j (brT ur day (mnR tr ur))) + P.2.2.1
      rcases m3 with e | e
      · have a1 := zc_set1 (u := brT tr day (mnR tr ur)) hn1 (by rw [rst_br hd, e, Int32.sub_self]) P.1 i hi
        have a2 := zc_set (u := brT ur day (mnR tr ur)) (fun q => absurd q hn2) (P.1.set i (brT tr day (mnR tr ur))) j hj2
        omega
      · have a1 := zc_set (u := brT tr day (mnR tr ur)) (fun q => absurd q hn1) P.1 i hi
        have a2 := zc_set1 (u := brT ur day (mnR tr ur)) hn2 (by rw [rst_br hd, e, Int32.sub_self]) (P.1.set i (brT tr day (mnR tr ur))) j hj2
        omega
    · exact Nat.le_refl _
  · exact Nat.le_refl _
theorem zc_in {h0 h1 : Dy} {day : Int32} {i : Nat} (hd : day ≤ 3000) : ∀ r j (P : PS), i < j → zc P.1 + (pin h0 h1 day i r j P).2.2.1 ≤ zc (pin h0 h1 day i r j P).1 + P.2.2.1
  | 0, _, _, _ => Nat.le_refl _
  | r + 1, j, P, h => by
    have a1 := zc_st (h0 := h0) (h1 := h1) (i := i) (j := j) (P := P) hd (by omega)
    have a2 := zc_in (h0 := h0) (h1 := h1) (i := i) hd r (j + 1) (pst h0 h1 day i j P) (by omega)
    show zc P.1 + (pin h0 h1 day i r (j + 1) (pst h0 h1 day i j P)).2.2.1 ≤ zc (pin h0 h1 day i r (j + 1) (pst h0 h1 day i j P)).1 + P.2.2.1
    omega
theorem zc_ou {h0 h1 : Dy} {day : Int32} {n : Nat} (hd : day ≤ 3000) : ∀ r i (P : PS), zc P.1 + (pou h0 h1 day n r i P).2.2.1 ≤ zc (pou h0 h1 day n r i P).1 + P.2.2.1
  | 0, _, _ => Nat.le_refl _
  | r + 1, i, P => by
    have a1 := zc_in (h0 := h0) (h1 := h1) (i := i) hd (n - (i + 1)) (i + 1) P (by omega)
    have a2 := zc_ou (h0 := h0) (h1 := h1) (n := n) hd r (i + 1) (pin h0 h1 day i (n - (i + 1)) (i + 1) P)
    show zc P.1 + (pou h0 h1 day n r (i + 1) (pin h0 h1 day i (n - (i + 1)) (i + 1) P)).2.2.1 ≤ zc (pou h0 h1 day n r (i + 1) (pin h0 h1 day i (n - (i + 1)) (i + 1) P)).1 + P.2.2.1
    omega
theorem zc_prs {h0 h1 : Dy} {day : Int32} {ts : List TR} (hd : day ≤ 3000) : zc ts + (prs h0 h1 day ts).2.2.1 ≤ zc (prs h0 h1 day ts).1 := zc_ou hd ts.length 0 (ts, 0, 0, [])
/-- its breaks: two for each pair -/
theorem pst_bk (h0 h1 : Dy) (day : Int32) (i j : Nat) (P : PS) : (pst h0 h1 day i j P).2.2.2.length + 2 * P.2.2.1 = P.2.2.2.length + 2 * (pst h0 h1 day i j P).2.2.1 := by
  unfold pst
  split
  · split
    · rw [List.length_append]
      show P.2.2.2.length + 2 + 2 * P.2.2.1 = P.2.2.2.length + 2 * (P.2.2.1 + 1)
      omega
    · rfl
  · rfl
theorem pin_bk (h0 h1 : Dy) (day : Int32) (i : Nat) : ∀ r j P, (pin h0 h1 day i r j P).2.2.2.length + 2 * P.2.2.1 = P.2.2.2.length + 2 * (pin h0 h1 day i r j P).2.2.1
  | 0, _, _ => rfl
  | r + 1, j, P => by
    have a1 := pst_bk h0 h1 day i j P
    have a2 := pin_bk h0 h1 day i r (j + 1) (pst h0 h1 day i j P)
    show (pin h0 h1 day i r (j + 1) (pst h0 h1 day i j P)).2.2.2.length + 2 * P.2.2.1 = P.2.2.2.length + 2 * (pin h0 h1 day i r (j + 1) (pst h0 h1 day i j P)).2.2.1
    omega
theorem pou_bk (h0 h1 : Dy) (day : Int32) (n : Nat) : ∀ r i P, (pou h0 h1 day n r i P).2.2.2.length + 2 * P.2.2.1 = P.2.2.2.length + 2 * (pou h0 h1 day n r i P).2.2.1
  | 0, _, _ => rfl
  | r + 1, i, P => by
    have a1 := pin_bk h0 h1 day i (n - (i + 1)) (i + 1) P
    have a2 := pou_bk h0 h1 day n r (i + 1) (pin h0 h1 day i (n - (i + 1)) (i + 1) P)
    show (pou h0 h1 day n r (i + 1) (pin h0 h1 day i (n - (i + 1)) (i + 1) P)).2.2.2.length + 2 * P.2.2.1 = P.2.2.2.length + 2 * (pou h0 h1 day n r (i + 1) (pin h0 h1 day i (n - (i + 1)) (i + 1) P)).2.2.1
    omega
theorem prs_bk (h0 h1 : Dy) (day : Int32) (ts : List TR) : (prs h0 h1 day ts).2.2.2.length = 2 * (prs h0 h1 day ts).2.2.1 := by
  have := pou_bk h0 h1 day ts.length ts.length 0 (ts, 0, 0, [])
  simpa [prs] using this
