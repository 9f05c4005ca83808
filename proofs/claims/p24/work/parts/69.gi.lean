/-! the law's own numbers beside the office -/
def RT (h0 h1 : Dy) (tr : TR) (r : Int32) : Prop := r = 0 ∨ (r = rstS tr.1 tr.2.1 ∧ ∀ y ∈ tr.2.1, y.1 ≤ bfC h0 h1 tr.1 (np tr - 1))
def TP (ts : List TR) (pf hf : Nat → Int32) : Prop := ∀ (t : Nat) (tr : TR), ts[t]? = some tr → pf t = nI (np tr) ∧ GT tr ∧ hf t = nI tr.2.2.length
def RI (h0 h1 : Dy) (ts : List TR) (rf : Nat → Int32) : Prop := ∀ (t : Nat) (tr : TR), ts[t]? = some tr → RT h0 h1 tr (rf t)
def HI (h0 h1 : Dy) (gf : Nat → Int32) (n : Nat) : Prop := gf 0 = nI h0.length ∧ gf 1 = nI h1.length ∧ (∀ y ∈ h0, ∃ d, d < n ∧ y.1 = nI d) ∧ (∀ y ∈ h1, ∃ d, d < n ∧ y.1 = nI (40 + d))
/-- all but the rests -/
def GJ (h0 h1 fx : Dy) (ts : List TR) (pf hf gf : Nat → Int32) (n : Nat) : Prop := SV h0 h1 fx ts ∧ TP ts pf hf ∧ (∀ t, ts.length ≤ t → t < 10 → hf t = 0) ∧ HI h0 h1 gf n ∧ fx.length ≤ n ∧ ∀ tr ∈ ts, tr.2.1.length ≤ n + zc ts
def GI (h0 h1 fx : Dy) (ts : List TR) (pf rf hf gf : Nat → Int32) (n : Nat) : Prop := GJ h0 h1 fx ts pf hf gf n ∧ RI h0 h1 ts rf
theorem upd_at (f : Nat → Int32) (k : Nat) (v : Int32) : upd f k v k = v := if_pos rfl
theorem upd_ne {f : Nat → Int32} {k j : Nat} {v : Int32} (h : j ≠ k) : upd f k v j = f j := if_neg h
theorem GJ.up {h0 h1 fx : Dy} {ts : List TR} {pf hf gf : Nat → Int32} {n : Nat} (h : GJ h0 h1 fx ts pf hf gf n) : GJ h0 h1 fx ts pf hf gf (n + 1) := by
  obtain ⟨a1, a2, a3, ⟨b1, b2, b3, b4⟩, a5, a6⟩ := h
  refine ⟨a1, a2, a3, ⟨b1, b2, fun y hy => ?_, fun y hy => ?_⟩, by omega, fun tr ht => by have := a6 tr ht; omega⟩
  · obtain ⟨d, h1', h2⟩ := b3 y hy; exact ⟨d, by omega, h2⟩
  · obtain ⟨d, h1', h2⟩ := b4 y hy; exact ⟨d, by omega, h2⟩
theorem GI.up {h0 h1 fx : Dy} {ts : List TR} {pf rf hf gf : Nat → Int32} {n : Nat} (h : GI h0 h1 fx ts pf rf hf gf n) : GI h0 h1 fx ts pf rf hf gf (n + 1) := ⟨h.1.up, h.2⟩
theorem GJ.bl {h0 h1 fx : Dy} {ts : List TR} {pf hf gf : Nat → Int32} {n : Nat} (h : GJ h0 h1 fx ts pf hf gf n) (hn : n ≤ 44) : BL ts ∧ ∀ tr ∈ ts, tr.2.1.length ≤ 54 := by
  have a1 := zc_le ts
  have a2 := h.1.tn
  have a6 := h.2.2.2.2.2
  exact ⟨fun tr ht => by have := a6 tr ht; omega, fun tr ht => by have := a6 tr ht; omega⟩
/-- a new trade -/
theorem GI.trd {h0 h1 fx : Dy} {ts : List TR} {pf rf hf gf : Nat → Int32} {n j l f q : Nat} {py : Int32} (h : GI h0 h1 fx ts pf rf hf gf n) (hpy : py = 0 ∨ py = 1) (hj : j < 2) (hl1 : 1 ≤ l) (hl2 : l ≤ 20) (hf9 : f ≤ 14) (hq1 : 1 ≤ q) (hq2 : q ≤ 5) (ht9 : ts.length < 10) : cdTrd ts (nI j) (nI l) 300 (nI f) 30 (nI q) = 0 ∧ GI h0 h1 fx (ts ++ [(mkT (nI j) (nI l) py 300 (nI f) 30 (nI q), [], [])]) (upd pf ts.length (nI q)) (upd rf ts.length (nI l)) hf gf (n + 1) := by
  have hcd : cdTrd ts (nI j) (nI l) 300 (nI f) 30 (nI q) = 0 := by
    unfold cdTrd
    have g1 : inB (nI j) 0 3 = true := inB_of (a := 0) (b := 3) (Nat.zero_le _) (by omega) (by decide)
    have g2 : inB (nI l) 1 1000 = true := inB_of (a := 1) (b := 1000) hl1 (by omega) (by decide)
    have g3 : inB (nI f) 0 1000 = true := inB_of (a := 0) (b := 1000) (Nat.zero_le _) (by omega) (by decide)
    have g4 : inB (nI q) 1 10 = true := inB_of (a := 1) (b := 10) hq1 (by omega) (by decide)
    rw [g1, g2, g3, g4, show inB 300 (-500) 2000 = true by decide, show inB 30 5 180 = true by decide]
    simp only [Bool.and_self, if_true]
    rw [if_neg (by omega)]
  have hu := h.up
  obtain ⟨⟨a1, a2, a3, a4, a5, a6⟩, a7⟩ := h
  have hzn := zc_app (mkT (nI j) (nI l) py 300 (nI f) 30 (nI q), [], []) ts
  have ec : np (mkT (nI j) (nI l) py 300 (nI f) 30 (nI q), [], []) = q := nI_clamp (by omega)
  refine ⟨hcd, ⟨sv_trd a1 hpy hcd, fun t tr ht => ?_, fun t h1' h2 => ?_, hu.1.2.2.2.1, by omega, fun tr ht => ?_⟩, fun t tr ht => ?_⟩
  · rcases getA ht with ⟨hu, hlt⟩ | ⟨et, e⟩
    · obtain ⟨c1, c2, c3⟩ := a2 t tr hu
      exact ⟨by rw [upd_ne (by omega)]; exact c1, c2, c3⟩
    · subst et e
      refine ⟨by rw [upd_at, ec], ⟨⟨fun y hy => by (cases hy), Nat.zero_le _⟩, ⟨?_, fun y hy => by (cases hy)⟩, by rw [ec]; exact hq2, f, hf9, rfl, rfl⟩, a3 _ (Nat.le_refl _) ht9⟩
      show P4 (nI j)
      rcases (show j = 0 ∨ j = 1 by omega) with e | e <;> subst e
      · exact Or.inl rfl
      · exact Or.inr (Or.inl rfl)
  · rw [List.length_append] at h1'
    exact a3 t (by have : ts.length + 1 ≤ t := h1'; omega) h2
  · rcases List.mem_append.mp ht with c | c
    · have := a6 tr c; omega
    · rw [List.mem_singleton.mp c]; exact Nat.zero_le _
  · rcases getA ht with ⟨hu, hlt⟩ | ⟨et, e⟩
    · rw [upd_ne (by omega)]; exact a7 t tr hu
    · subst et e
      rw [upd_at]
      exact Or.inr ⟨(Int32.sub_zero (nI l)).symm, fun y hy => by (cases hy)⟩
/-- one trade is changed -/
theorem TP.set {ts : List TR} {pf hf hg : Nat → Int32} {t : Nat} {tr tr' : TR} (h : TP ts pf hf) (ht : ts[t]? = some tr) (h1 : np tr' = np tr) (h2 : GT tr') (h3 : hg t = nI tr'.2.2.length) (h4 : ∀ j, j ≠ t → hg j = hf j) : TP (ts.set t tr') pf hg := fun u ur hu => by
  rcases set_at hu with ⟨e1, e2, -⟩ | ⟨e1, hu⟩
  · subst e1 e2
    exact ⟨by rw [h1]; exact (h _ tr ht).1, h2, h3⟩
  · obtain ⟨c1, c2, c3⟩ := h u ur hu
    exact ⟨c1, c2, by rw [h4 u e1]; exact c3⟩
theorem RI.set {h0 h1 : Dy} {ts : List TR} {rf rg : Nat → Int32} {t : Nat} {tr' : TR} (h : RI h0 h1 ts rf) (h3 : RT h0 h1 tr' (rg t)) (h4 : ∀ j, j ≠ t → rg j = rf j) : RI h0 h1 (ts.set t tr') rg := fun u ur hu => by
  rcases set_at hu with ⟨e1, e2, -⟩ | ⟨e1, hu⟩
  · subst e1 e2; exact h3
  · rw [h4 u e1]; exact h u ur hu
/-- a handover -/
theorem GI.hnd {h0 h1 fx : Dy} {ts : List TR} {pf rf hf gf : Nat → Int32} {n t d j : Nat} {tr : TR} (h : GI h0 h1 fx ts pf rf hf gf n) (ht : ts[t]? = some tr) (hd : d ≤ 3000) (hj : j < 2) (hh : tr.2.2.length < 10) : cdHnd ts (nI t) (nI d) (nI j) = 0 ∧ GI h0 h1 fx (ts.set t (tr.1, tr.2.1, tr.2.2 ++ [(nI d, nI j)])) pf rf (upd hf t (nI (tr.2.2.length + 1))) gf (n + 1) ∧ zc ts ≤ zc (ts.set t (tr.1, tr.2.1, tr.2.2 ++ [(nI d, nI j)])) := by
  have hu := h.up
  obtain ⟨⟨a1, a2, a3, a4, a5, a6⟩, a7⟩ := h
  have hlt := lt_of_get ht
  have htn := a1.tn
  have hcd : cdHnd ts (nI t) (nI d) (nI j) = 0 := by
    unfold cdHnd
    have g1 : inB (nI j) 0 3 = true := inB_of (a := 0) (b := 3) (Nat.zero_le _) (by omega) (by decide)
    have g2 : inB (nI d) 0 3000 = true := inB_of (a := 0) (b := 3000) (Nat.zero_le _) hd (by decide)
    rw [trd_at a1 rfl ht, g1, g2]
    simp only [if_true]
    rw [if_neg (by omega)]
  have hz := zc_hnd (hs := tr.2.2 ++ [(nI d, nI j)]) ht
  obtain ⟨c1, ⟨c2, c3, c4, c5⟩, c6⟩ := a2 t tr ht
  have hP : P4 (nI j) := by
    rcases (show j = 0 ∨ j = 1 by omega) with e | e <;> subst e
    · exact Or.inl rfl
    · exact Or.inr (Or.inl rfl)
  refine ⟨hcd, ⟨⟨sv_hnd a1 rfl ht hcd, a2.set ht rfl ⟨c2, ⟨c3.1, fun y hy => ?_⟩, c4, c5⟩ ?_ (fun j hj => upd_ne hj), fun u h1' h2 => ?_, hu.1.2.2.2.1, by omega, fun y hy => ?_⟩, a7.set (a7 t tr ht) (fun j hj => rfl)⟩, hz⟩
  · rcases List.mem_append.mp hy with c | c
    · exact c3.2 y c
    · rw [List.mem_singleton.mp c]; exact hP
  · rw [upd_at]; show _ = nI (tr.2.2 ++ [(nI d, nI j)]).length; rw [List.length_append]; rfl
  · rw [List.length_set] at h1'
    rw [upd_ne (by omega)]; exact a3 u h1' h2
  · rcases List.mem_or_eq_of_mem_set hy with hy | e
    · have := a6 y hy; omega
    · rw [e]; have := a6 tr (List.mem_of_getElem? ht); show tr.2.1.length ≤ _; omega
/-- a fixing -/
theorem GI.fix {h0 h1 fx : Dy} {ts : List TR} {pf rf hf gf : Nat → Int32} {n d : Nat} {r : Int32} (h : GI h0 h1 fx ts pf rf hf gf n) (hn : n < 44) (hd : d ≤ 3000) (hr : inB r (-500) 2000 = true) : cdFix fx (nI d) r = 0 ∧ GI h0 h1 (dPut fx (nI d) r) ts pf rf hf gf (n + 1) := by
  have hu := h.up
  obtain ⟨⟨a1, a2, a3, a4, a5, a6⟩, a7⟩ := h
  have hcd : cdFix fx (nI d) r = 0 := by
    unfold cdFix
    have g2 : inB (nI d) 0 3000 = true := inB_of (a := 0) (b := 3000) (Nat.zero_le _) hd (by decide)
    rw [g2, hr, decide_eq_false (show ¬ 60 ≤ fx.length by omega)]
    rfl
  refine ⟨hcd, ⟨sv_fix a1 hcd, a2, a3, hu.1.2.2.2.1, ?_, hu.1.2.2.2.2.2⟩, a7⟩
  rw [dPut_len]
  split <;> omega
/-! a holiday moves days on, never back -/
theorem rol_more {h0 h1 g0 g1 : Dy} (ho : ∀ d, opn g0 g1 d = true → opn h0 h1 d = true) (n0 : g0.length ≤ 20) (n1 : g1.length ≤ 20) {d : Nat} (hd : d < 2 ^ 30) : rol h0 h1 d ≤ rol g0 g1 d := rol_least (rol_ge g0 g1 d) (ho _ (opn_rol n0 n1 hd))
theorem bfC_more {h0 h1 g0 g1 : Dy} {tr : TR} (hT : TV tr) (ho : ∀ d, opn g0 g1 d = true → opn h0 h1 d = true) (n0 : g0.length ≤ 20) (n1 : g1.length ≤ 20) {k : Nat} (hk : k ≤ np tr) : bfC h0 h1 tr.1 k ≤ bfC g0 g1 tr.1 k := by
  obtain ⟨n6, m1, n10⟩ := hT.n
  obtain ⟨f, le, n, t4, t5, t6, vf, vl, vn⟩ := hT.t
  have h9 : k * le ≤ 10 * 180 := Nat.mul_le_mul (by omega) vl
  rw [bfC_eq t4 t5 n6 (by omega) (by omega) (by omega) hk, bfC_eq t4 t5 n6 (by omega) (by omega) (by omega) hk]
  have e1 := rol_le g0 g1 (f + k * le)
  exact nI_le (rol_more ho n0 n1 (by omega)) (by omega)
theorem RI.more {h0 h1 g0 g1 fx : Dy} {ts : List TR} {rf : Nat → Int32} (h : RI h0 h1 ts rf) (hV : SV g0 g1 fx ts) (ho : ∀ d, opn g0 g1 d = true → opn h0 h1 d = true) : RI g0 g1 ts rf := fun t tr ht => (h t tr ht).imp (fun e => e) (fun ⟨e1, e2⟩ => ⟨e1, fun y hy => Int32.le_trans (e2 y hy) (bfC_more (hV.tv ht) ho hV.1 hV.2.1 (by omega))⟩)
theorem opn_app0 {h0 h1 : Dy} {a v : Int32} (d : Nat) (h : opn (h0 ++ [(a, v)]) h1 d = true) : opn h0 h1 d = true := by
  unfold opn at h ⊢
  rw [dHas_app, Bool.not_or] at h
  simp only [Bool.and_eq_true] at h ⊢
  exact ⟨h.1, h.2.1.1, h.2.2⟩
theorem opn_app1 {h0 h1 : Dy} {a v : Int32} (d : Nat) (h : opn h0 (h1 ++ [(a, v)]) d = true) : opn h0 h1 d = true := by
  unfold opn at h ⊢
  rw [dHas_app, Bool.not_or] at h
  simp only [Bool.and_eq_true] at h ⊢
  exact ⟨h.1, h.2.1, h.2.2.1⟩
theorem opn_no0 {h0 h1 : Dy} {v : Int32} (d : Nat) : opn (h0 ++ [(nI d, v)]) h1 d = false := by
  unfold opn
  rw [dHas_app, decide_eq_true (rfl : nI d = nI d)]
  simp
theorem opn_no1 {h0 h1 : Dy} {v : Int32} (d : Nat) : opn h0 (h1 ++ [(nI d, v)]) d = false := by
  unfold opn
  rw [dHas_app, decide_eq_true (rfl : nI d = nI d)]
  simp
theorem rol_gt {h0 h1 : Dy} (n0 : h0.length ≤ 20) (n1 : h1.length ≤ 20) {d : Nat} (hd : d < 2 ^ 30) (h : opn h0 h1 d = false) : d < rol h0 h1 d := by
  have h1' := rol_ge h0 h1 d
  rcases Nat.eq_or_lt_of_le h1' with e | e
  · have h2 := opn_rol n0 n1 (d := d) hd
    rw [← e, h] at h2
    cases h2
  · exact e
theorem dHas_no {es : Dy} {a : Int32} (h : ∀ y ∈ es, ¬ y.1 = a) : dHas es a = false := by
  cases c : dHas es a with
  | false => rfl
  | true =>
    obtain ⟨y, hy, e⟩ := List.mem_map.mp (dHas_iff.mp c)
    exact absurd e (h y hy)
/-- a holiday of the town 0 -/
theorem GI.hol0 {h0 h1 fx : Dy} {ts : List TR} {pf rf hf gf : Nat → Int32} {n : Nat} (h : GI h0 h1 fx ts pf rf hf gf n) (hn : n < 30) (hl : h0.length < 20) : cdHol h0 h1 0 (nI n) = 0 ∧ GI (h0 ++ [(nI n, 0)]) h1 fx ts pf rf hf (upd gf 0 (nI (h0.length + 1))) (n + 1) := by
  have hu := h.up
  obtain ⟨⟨a1, a2, a3, ⟨b1, b2, b3, b4⟩, a5, a6⟩, a7⟩ := h
  have hno : dHas h0 (nI n) = false := dHas_no (fun y hy e => by
    obtain ⟨d, q1, q2⟩ := b3 y hy
    have := nI_inj (q2.symm.trans e) (by omega) (by omega)
    omega)
  have hcd : cdHol h0 h1 0 (nI n) = 0 := by
    unfold cdHol
    have g2 : inB (nI n) 0 3000 = true := inB_of (a := 0) (b := 3000) (Nat.zero_le _) (by omega) (by decide)
    rw [g2, show inB 0 0 1 = true by decide, if_pos (rfl : (0 : Int32) = 0), hno, decide_eq_false (show ¬ 20 ≤ h0.length by omega)]
    rfl
  have hVn : SV (h0 ++ [(nI n, 0)]) h1 fx ts := a1.hol0 (by omega) hl
  refine ⟨hcd, ⟨hVn, a2, a3, ⟨?_, ?_, fun y hy => ?_, hu.1.2.2.2.1.2.2.2⟩, by omega, hu.1.2.2.2.2.2⟩, a7.more hVn (fun d => opn_app0 d)⟩
  · rw [upd_at, List.length_append]; rfl
  · rw [upd_ne (by decide)]; exact b2
  · rcases List.mem_append.mp hy with c | c
    · obtain ⟨d, q1, q2⟩ := b3 y c; exact ⟨d, by omega, q2⟩
    · rw [List.mem_singleton.mp c]; exact ⟨n, by omega, rfl⟩
/-- a holiday of the town 1 -/
theorem GI.hol1 {h0 h1 fx : Dy} {ts : List TR} {pf rf hf gf : Nat → Int32} {n : Nat} (h : GI h0 h1 fx ts pf rf hf gf n) (hn : n < 30) (hl : h1.length < 20) : cdHol h0 h1 1 (nI (40 + n)) = 0 ∧ GI h0 (h1 ++ [(nI (40 + n), 1)]) fx ts pf rf hf (upd gf 1 (nI (h1.length + 1))) (n + 1) := by
  have hu := h.up
  obtain ⟨⟨a1, a2, a3, ⟨b1, b2, b3, b4⟩, a5, a6⟩, a7⟩ := h
  have hno : dHas h1 (nI (40 + n)) = false := dHas_no (fun y hy e => by
    obtain ⟨d, q1, q2⟩ := b4 y hy
    have := nI_inj (q2.symm.trans e) (by omega) (by omega)
    omega)
  have hcd : cdHol h0 h1 1 (nI (40 + n)) = 0 := by
    unfold cdHol
    have g2 : inB (nI (40 + n)) 0 3000 = true := inB_of (a := 0) (b := 3000) (Nat.zero_le _) (by omega) (by decide)
    rw [g2, show inB 1 0 1 = true by decide, if_neg (show ¬ (1 : Int32) = 0 by decide), hno, decide_eq_false (show ¬ 20 ≤ h1.length by omega)]
    rfl
  have hVn : SV h0 (h1 ++ [(nI (40 + n), 1)]) fx ts := a1.hol1 (by omega) hl
  refine ⟨hcd, ⟨hVn, a2, a3, ⟨?_, ?_, hu.1.2.2.2.1.2.2.1, fun y hy => ?_⟩, by omega, hu.1.2.2.2.2.2⟩, a7.more hVn (fun d => opn_app1 d)⟩
  · rw [upd_ne (by decide)]; exact b1
  · rw [upd_at, List.length_append]; rfl
  · rcases List.mem_append.mp hy with c | c
    · obtain ⟨d, q1, q2⟩ := b4 y c; exact ⟨d, by omega, q2⟩
    · rw [List.mem_singleton.mp c]; exact ⟨n, by omega, rfl⟩
/-- a break -/
theorem GI.brk {h0 h1 fx : Dy} {ts : List TR} {pf rf hf gf : Nat → Int32} {n t d w : Nat} {tr : TR} (h : GI h0 h1 fx ts pf rf hf gf n) (ht : ts[t]? = some tr) (hd : d ≤ 3000) (hdb : nI d ≤ bfC h0 h1 tr.1 (np tr - 1)) (hw1 : 1 ≤ w) (hw2 : w ≤ 4) (c1 : ¬ lotS tr.1 tr.2.1 (bfC h0 h1 tr.1) (np tr - 1) < nI w) (c2 : ¬ rf t < lotS tr.1 tr.2.1 (bfC h0 h1 tr.1) (np tr - 1)) : cdBrk ts (nI t) (nI d) (nI w) = 0 ∧ GI h0 h1 fx (ts.set t (brT tr (nI d) (nI w))) pf (upd rf t (lotS tr.1 (tr.2.1 ++ [(nI d, nI w)]) (bfC h0 h1 tr.1) (np tr - 1))) hf gf (n + 1) ∧ zc ts ≤ zc (ts.set t (brT tr (nI d) (nI w))) := by
  have hu := h.up
  obtain ⟨⟨a1, a2, a3, a4, a5, a6⟩, a7⟩ := h
  have hT := a1.tv ht
  have hG := (a2 t tr ht).2.1
  have hlt := lt_of_get ht
  obtain ⟨e1, e1b⟩ := rst_N hT hG.1
  have hm := a7 t tr ht
  have hR : rf t = rstS tr.1 tr.2.1 ∧ ∀ y ∈ tr.2.1, y.1 ≤ bfC h0 h1 tr.1 (np tr - 1) := by
    rcases hm with e | e
    · exfalso
      rw [e] at c2
      have q := Int32.le_trans (Int32.not_lt.mp c1) (Int32.not_lt.mp c2)
      exact nI_nle (n := w) (by omega) (by omega) q
    · exact e
  have hlot : lotS tr.1 tr.2.1 (bfC h0 h1 tr.1) (np tr - 1) = nI (rN tr) := by
    rw [lot_N hT hG.1, bsN_all _ hR.2]
    rfl
  have hwr : w ≤ rN tr := by
    rw [hlot] at c1
    rcases Nat.lt_or_ge (rN tr) w with q | q
    · exact absurd (nI_lt q (by omega)) c1
    · exact q
  have hcd : cdBrk ts (nI t) (nI d) (nI w) = 0 := by
    unfold cdBrk
    have g1 : inB (nI d) 0 3000 = true := inB_of (a := 0) (b := 3000) (Nat.zero_le _) hd (by decide)
    have g2 : inB (nI w) 1 1000 = true := inB_of (a := 1) (b := 1000) hw1 (by omega) (by decide)
    rw [trd_at a1 rfl ht]
    dsimp only
    rw [g1, g2, e1, if_pos (show (true && true) = true from rfl), if_neg (nI_nlt hwr (by omega))]
  obtain ⟨s1, s2⟩ := sv_brk a1 rfl ht hcd
  obtain ⟨q1, q2⟩ := GB.brk (d := nI d) hT hG.1 hw1 hwr
  refine ⟨hcd, ⟨⟨s1, a2.set (tr' := brT tr (nI d) (nI w)) ht rfl ⟨q1, hG.2⟩ (a2 t tr ht).2.2 (fun _ _ => rfl), fun u h1' h2 => a3 u (by rw [List.length_set] at h1'; exact h1') h2, hu.1.2.2.2.1, by omega, fun y hy => ?_⟩, a7.set (tr' := brT tr (nI d) (nI w)) ?_ (fun j hj => upd_ne hj)⟩, s2⟩
  · rcases List.mem_or_eq_of_mem_set hy with hy | e
    · have := a6 y hy; omega
    · rw [e]; have := a6 tr (List.mem_of_getElem? ht); show (tr.2.1 ++ [(nI d, nI w)]).length ≤ _; rw [List.length_append]; show tr.2.1.length + 1 ≤ _; omega
  · rw [upd_at]
    refine Or.inr ⟨?_, fun y hy => ?_⟩
    · rw [lot_br, if_pos hdb, rst_br (nI_le (a := d) (b := 3000) hd (by decide)), hlot, e1]
    · rcases List.mem_append.mp (show y ∈ tr.2.1 ++ [(nI d, nI w)] from hy) with c | c
      · exact hR.2 y c
      · rw [List.mem_singleton.mp c]; exact hdb
/-- a pressing -/
theorem GJ.prs {h0 h1 fx : Dy} {ts : List TR} {pf hf gf : Nat → Int32} {n d : Nat} (h : GJ h0 h1 fx ts pf hf gf n) (hd : d ≤ 3000) : GJ h0 h1 fx (prs h0 h1 (nI d) ts).1 pf hf gf (n + 1) ∧ zc ts + (prs h0 h1 (nI d) ts).2.2.1 ≤ zc (prs h0 h1 (nI d) ts).1 := by
  have hu := h.up
  obtain ⟨a1, a2, a3, a4, a5, a6⟩ := h
  have hi : inB (nI d) 0 3000 = true := inB_of (a := 0) (b := 3000) (Nat.zero_le _) hd (by decide)
  obtain ⟨s1, s2⟩ := sv_prs a1 a6 hi
  obtain ⟨p1, p2, p3, p4⟩ := prs_all (h0 := h0) (h1 := h1) (fx := fx) (d := d) hd (fun tr ht => ⟨a1.2.2.2.2.2.2.2.2 tr ht, by obtain ⟨t, ht⟩ := List.mem_iff_getElem?.mp ht; exact (a2 t tr ht).2.1⟩)
  obtain ⟨v1, v2, v3⟩ := prs_pv a1 a6 hd
  refine ⟨⟨s1, fun t tr' ht => ?_, fun t h1' h2 => a3 t (by rw [prs_len] at h1'; exact h1') h2, hu.2.2.2.1, by omega, fun tr ht => by have := v3 tr ht; omega⟩, s2⟩
  obtain ⟨tr, hu9, l1⟩ := p4 t tr' ht
  obtain ⟨c1, c2, c3⟩ := a2 t tr hu9
  exact ⟨by rw [np_le l1]; exact c1, (p1 tr' (List.mem_of_getElem? ht)).2, by rw [l1.2.1]; exact c3⟩
/-! the law's arrays beside the office -/
def AH (E : ET) (ow : Nat → Nat × Nat) (x a2 a3 a4 a5 : Nat) (h0 h1 fx : Dy) (ts : List TR) (pf rf hf gf : Nat → Int32) (H : Heap) : Prop := XR E ow x h0 h1 fx ts H ∧ (IA E 10 pf a2 H ∧ IA E 10 rf a3 H ∧ IA E 10 hf a4 H ∧ IA E 2 gf a5 H) ∧ ow a2 = (4, 1) ∧ ow a3 = (4, 2) ∧ ow a4 = (4, 3) ∧ ow a5 = (4, 4)
section AHS
variable {E : ET} {ow : Nat → Nat × Nat} {x a2 a3 a4 a5 : Nat} {h0 h1 fx g0 g1 gx : Dy} {ts us : List TR} {pf rf hf gf f : Nat → Int32} {H H1 : Heap}
theorem AH.out (h : AH E ow x a2 a3 a4 a5 h0 h1 fx ts pf rf hf gf H) (hX : XOut E ow x g0 g1 gx us H H1) : ∃ ow1, AH E ow1 x a2 a3 a4 a5 g0 g1 gx us pf rf hf gf H1 := by
  obtain ⟨b1, ⟨b2, b3, b4, b5⟩, l2, l3, l4, l5⟩ := h
  obtain ⟨ow1, e1, e2, hR, hF⟩ := hX
  exact ⟨ow1, hR, ⟨hF.at b2 (fun q => q (by rw [l2])), hF.at b3 (fun q => q (by rw [l3])), hF.at b4 (fun q => q (by rw [l4])), hF.at b5 (fun q => q (by rw [l5]))⟩, (e1 _ (plt b2)).trans l2, (e1 _ (plt b3)).trans l3, (e1 _ (plt b4)).trans l4, (e1 _ (plt b5)).trans l5⟩
theorem ne_lab {a b : Nat} {u v : Nat × Nat} (h1 : ow a = u) (h2 : ow b = v) (h : u ≠ v) : a ≠ b := fun e => h (by rw [← h1, ← h2, e])
theorem XR.put {a : Nat} (h : XR E ow x h0 h1 fx ts H) (ha : (ow a).1 = 4) (hg : eB E ≤ a) (hB : eF E < eB E) (o : ∀ q : Nat, q ≠ a → H1[q]? = H[q]?) : XR E ow x h0 h1 fx ts H1 := h.kept (fun q hq => o q (by omega)) hB (fun q _ h4 => o q (fun e => h4 (by rw [e]; exact ha))) (fun _ _ => rfl)
theorem AH.p2 (h : AH E ow x a2 a3 a4 a5 h0 h1 fx ts pf rf hf gf H) (hA : IA E 10 f a2 H1) (hg : eB E ≤ a2) (hB : eF E < eB E) (o : ∀ q : Nat, q ≠ a2 → H1[q]? = H[q]?) : AH E ow x a2 a3 a4 a5 h0 h1 fx ts f rf hf gf H1 := by
  obtain ⟨b1, ⟨b2, b3, b4, b5⟩, l2, l3, l4, l5⟩ := h
  exact ⟨b1.put (by rw [l2]) hg hB o, ⟨hA, pk2 b3 o (ne_lab l3 l2 (by decide)), pk2 b4 o (ne_lab l4 l2 (by decide)), pk2 b5 o (ne_lab l5 l2 (by decide))⟩, l2, l3, l4, l5⟩
theorem AH.p3 (h : AH E ow x a2 a3 a4 a5 h0 h1 fx ts pf rf hf gf H) (hA : IA E 10 f a3 H1) (hg : eB E ≤ a3) (hB : eF E < eB E) (o : ∀ q : Nat, q ≠ a3 → H1[q]? = H[q]?) : AH E ow x a2 a3 a4 a5 h0 h1 fx ts pf f hf gf H1 := by
  obtain ⟨b1, ⟨b2, b3, b4, b5⟩, l2, l3, l4, l5⟩ := h
  exact ⟨b1.put (by rw [l3]) hg hB o, ⟨pk2 b2 o (ne_lab l2 l3 (by decide)), hA, pk2 b4 o (ne_lab l4 l3 (by decide)), pk2 b5 o (ne_lab l5 l3 (by decide))⟩, l2, l3, l4, l5⟩
theorem AH.p4 (h : AH E ow x a2 a3 a4 a5 h0 h1 fx ts pf rf hf gf H) (hA : IA E 10 f a4 H1) (hg : eB E ≤ a4) (hB : eF E < eB E) (o : ∀ q : Nat, q ≠ a4 → H1[q]? = H[q]?) : AH E ow x a2 a3 a4 a5 h0 h1 fx ts pf rf f gf H1 := by
  obtain ⟨b1, ⟨b2, b3, b4, b5⟩, l2, l3, l4, l5⟩ := h
  exact ⟨b1.put (by rw [l4]) hg hB o, ⟨pk2 b2 o (ne_lab l2 l4 (by decide)), pk2 b3 o (ne_lab l3 l4 (by decide)), hA, pk2 b5 o (ne_lab l5 l4 (by decide))⟩, l2, l3, l4, l5⟩
theorem AH.p5 (h : AH E ow x a2 a3 a4 a5 h0 h1 fx ts pf rf hf gf H) (hA : IA E 2 f a5 H1) (hg : eB E ≤ a5) (hB : eF E < eB E) (o : ∀ q : Nat, q ≠ a5 → H1[q]? = H[q]?) : AH E ow x a2 a3 a4 a5 h0 h1 fx ts pf rf hf f H1 := by
  obtain ⟨b1, ⟨b2, b3, b4, b5⟩, l2, l3, l4, l5⟩ := h
  exact ⟨b1.put (by rw [l5]) hg hB o, ⟨pk2 b2 o (ne_lab l2 l5 (by decide)), pk2 b3 o (ne_lab l3 l5 (by decide)), pk2 b4 o (ne_lab l4 l5 (by decide)), hA⟩, l2, l3, l4, l5⟩
end AHS
/-- the law's state ahead of turn n, with tn trades -/
def LI (E : ET) (x a2 a3 a4 a5 n tn cells slots C S : Nat) (H : Heap) : Prop := ∃ (ow : Nat → Nat × Nat) (h0 h1 fx : Dy) (ts : List TR) (pf rf hf gf : Nat → Int32), AH E ow x a2 a3 a4 a5 h0 h1 fx ts pf rf hf gf H ∧ GI h0 h1 fx ts pf rf hf gf n ∧ ts.length = tn ∧ cells ≤ C + 4 * zc ts ∧ slots ≤ S + 500 * zc ts
/-- what the law's walk stands on -/
def LX (p : Program) (s : State) (m : MethodId) (c : Code) (b : Nat) (E : ET) (a2 a3 a4 a5 n C S : Nat) : Prop := p.tables.exec = Jvm.exec ∧ c.code = cL_law ∧ c.maxLocals = 16 ∧ s.vm.findClass RL = some m.cls ∧ (∀ w ∈ Tw, w.before #[Value.ref b] s = true) ∧ eB E = s.heap.size ∧ (eB E ≤ a2 ∧ eB E ≤ a3 ∧ eB E ≤ a4 ∧ eB E ≤ a5) ∧ n < 44 ∧ C ≤ 200000 ∧ S ≤ 2000000
