theorem upA_eq {ar : Nat → Nat → Int32} {k : Nat} {f : Nat → Int32} : upA ar k f k = f := if_pos rfl
theorem upA_ne {ar : Nat → Nat → Int32} {k j : Nat} {f : Nat → Int32} (h : j ≠ k) : upA ar k f j = ar j := if_neg h
theorem set_at {α : Type} {l : List α} {i t : Nat} {x y : α} (h : (l.set i x)[t]? = some y) : (t = i ∧ y = x ∧ i < l.length) ∨ (t ≠ i ∧ l[t]? = some y) := by
  by_cases c : t = i
  · subst c
    have hl : t < l.length := by
      have := (List.getElem?_eq_some_iff.mp h).1
      rwa [List.length_set] at this
    rw [List.getElem?_set_self hl] at h
    cases h
    exact Or.inl ⟨rfl, rfl, hl⟩
  · rw [List.getElem?_set_ne (fun e => c e.symm)] at h
    exact Or.inr ⟨c, h⟩
theorem lt_of_get {α : Type} {l : List α} {i : Nat} {x : α} (h : l[i]? = some x) : i < l.length := (List.getElem?_eq_some_iff.mp h).1
theorem brk_one {i t : Nat} {d lo : Int32} (hi : i < 2 ^ 31) (ht : t < 2 ^ 31) : brk [(nI i, d, lo)] t = if t = i then [(d, lo)] else [] := by
  rw [brk_mem]
  by_cases c : t = i
  · subst c; rw [if_pos rfl, if_pos rfl]; rfl
  · rw [if_neg (fun e => c ((nI_eq hi ht).mp e).symm), if_neg c]; rfl
/-- a break is added -/
theorem MI.brk {sc : Nat → Int32} {ar : Nat → Nat → Int32} {h0 h1 fx : Dy} {ts : List TR} {B : BK} {i : Nat} {tr : TR} {d lo : Int32} (h : MI sc ar h0 h1 fx ts B) (ht : ts[i]? = some tr) (hn : ts.length ≤ 10) (hB : B.length < 9000) : MI (upd sc 17 (nI (B.length + 1))) (upA (upA (upA ar 18 (upd (ar 18) B.length (nI i))) 19 (upd (ar 19) B.length d)) 20 (upd (ar 20) B.length lo)) h0 h1 fx (ts.set i (brT tr d lo)) (B ++ [(nI i, d, lo)]) := by
  obtain ⟨m1, m2, m3, m4, m5, m6, m7, m8, m9, m10, m11, m12⟩ := h
  have hi := lt_of_get ht
  refine ⟨m1, m2, m3, m4, by rw [List.length_set]; exact m5, fun t ur hu j hj => ?_, by rw [List.length_set]; exact m7, ⟨by rw [List.length_append]; rfl, by rw [List.length_append]; show B.length + 1 ≤ 9000; omega⟩, fun k e he => ?_, fun t ur hu => ?_, fun e he => ?_, fun t ur hu => ?_⟩
  · rw [upA_ne (by omega), upA_ne (by omega), upA_ne (by omega)]
    rcases set_at hu with ⟨c, e, -⟩ | ⟨c, hu⟩
    · subst c e; exact m6 t tr ht j hj
    · exact m6 t ur hu j hj
  · show upd (ar 18) B.length (nI i) k = _ ∧ upd (ar 19) B.length d k = _ ∧ upd (ar 20) B.length lo k = _
    rcases getA he with ⟨he, hl⟩ | ⟨c, e9⟩
    · rw [pk_un (Nat.ne_of_lt hl), pk_un (Nat.ne_of_lt hl), pk_un (Nat.ne_of_lt hl)]; exact m9 k e he
    · subst c e9; rw [pk_us, pk_us, pk_us]; exact ⟨rfl, rfl, rfl⟩
  · rw [brk_app]
    rcases set_at hu with ⟨c, e, -⟩ | ⟨c, hu⟩
    · subst c e
      rw [brk_one (by omega) (by omega), if_pos rfl]
      show tr.2.1 ++ _ = _
      rw [m10 t tr ht]
    · have := lt_of_get hu
      rw [brk_one (by omega) (by omega), if_neg c, List.append_nil]
      exact m10 t ur hu
  · rw [List.length_set]
    rcases List.mem_append.mp he with c | c
    · exact m11 e c
    · rw [List.mem_singleton.mp c]; exact ⟨i, hi, rfl⟩
  · rcases set_at hu with ⟨c, e, -⟩ | ⟨c, hu⟩
    · subst c e; exact m12 t tr ht
    · exact m12 t ur hu
/-- other terms -/
theorem MI.set {sc : Nat → Int32} {ar : Nat → Nat → Int32} {h0 h1 fx : Dy} {ts : List TR} {B : BK} {i : Nat} {tr : TR} {sp dc co : Int32} (h : MI sc ar h0 h1 fx ts B) (ht : ts[i]? = some tr) : MI sc (upA (upA (upA ar 14 (upd (ar 14) i sp)) 15 (upd (ar 15) i dc)) 16 (upd (ar 16) i co)) h0 h1 fx (ts.set i (setT tr.1 sp dc co, tr.2.1, tr.2.2)) B := by
  obtain ⟨m1, m2, m3, m4, m5, m6, m7, m8, m9, m10, m11, m12⟩ := h
  have hi := lt_of_get ht
  refine ⟨m1, m2, m3, m4, by rw [List.length_set]; exact m5, fun t ur hu j hj => ?_, fun t h1' h2' => ?_, m8, m9, fun t ur hu => ?_, fun e he => by rw [List.length_set]; exact m11 e he, fun t ur hu => ?_⟩
  · rcases set_at hu with ⟨c, e, -⟩ | ⟨c, hu⟩
    · subst c e
      have k := m6 t tr ht j hj
      rcases (show j < 7 ∨ j = 7 ∨ j = 8 ∨ j = 9 by omega) with q | q | q | q
      · rw [upA_ne (by omega), upA_ne (by omega), upA_ne (by omega), k]
        show tr.1 j = setT tr.1 sp dc co j
        unfold setT
        rw [if_neg (by omega), if_neg (by omega), if_neg (by omega)]
      · subst q; exact pk_us
      · subst q; exact pk_us
      · subst q; exact pk_us
    · have k := m6 t ur hu j hj
      rcases (show j < 7 ∨ j = 7 ∨ j = 8 ∨ j = 9 by omega) with q | q | q | q
      · rw [upA_ne (by omega), upA_ne (by omega), upA_ne (by omega)]; exact k
      · subst q; exact (pk_un c).trans k
      · subst q; exact (pk_un c).trans k
      · subst q; exact (pk_un c).trans k
  · rw [List.length_set] at h1'
    have k := m7 t h1' h2'
    have c : t ≠ i := by omega
    exact ⟨(pk_un c).trans k.1, (pk_un c).trans k.2.1, (pk_un c).trans k.2.2.1, k.2.2.2⟩
  · rcases set_at hu with ⟨c, e, -⟩ | ⟨c, hu⟩
    · subst c e; exact m10 t tr ht
    · exact m10 t ur hu
  · rcases set_at hu with ⟨c, e, -⟩ | ⟨c, hu⟩
    · subst c e; exact m12 t tr ht
    · exact m12 t ur hu
/-- another hand -/
theorem MI.hnd {sc : Nat → Int32} {ar : Nat → Nat → Int32} {h0 h1 fx : Dy} {ts : List TR} {B : BK} {i : Nat} {tr : TR} {d pa : Int32} (h : MI sc ar h0 h1 fx ts B) (hV : SV h0 h1 fx ts) (ht : ts[i]? = some tr) (hl : tr.2.2.length < 10) : MI sc (upA (upA (upA ar 22 (upd (ar 22) (10 * i + tr.2.2.length) d)) 23 (upd (ar 23) (10 * i + tr.2.2.length) pa)) 21 (upd (ar 21) i (nI (tr.2.2.length + 1)))) h0 h1 fx (ts.set i (tr.1, tr.2.1, tr.2.2 ++ [(d, pa)])) B := by
  obtain ⟨m1, m2, m3, m4, m5, m6, m7, m8, m9, m10, m11, m12⟩ := h
  have hi := lt_of_get ht
  refine ⟨m1, m2, m3, m4, by rw [List.length_set]; exact m5, fun t ur hu j hj => ?_, fun t h1' h2' => ?_, m8, m9, fun t ur hu => ?_, fun e he => by rw [List.length_set]; exact m11 e he, fun t ur hu => ?_⟩
  · rw [upA_ne (by omega), upA_ne (by omega), upA_ne (by omega)]
    rcases set_at hu with ⟨c, e, -⟩ | ⟨c, hu⟩
    · subst c e; exact m6 t tr ht j hj
    · exact m6 t ur hu j hj
  · rw [List.length_set] at h1'
    have k := m7 t h1' h2'
    have c : t ≠ i := by omega
    exact ⟨k.1, k.2.1, k.2.2.1, (pk_un c).trans k.2.2.2⟩
  · rcases set_at hu with ⟨c, e, -⟩ | ⟨c, hu⟩
    · subst c e; exact m10 t tr ht
    · exact m10 t ur hu
  · show upd (ar 21) i (nI (tr.2.2.length + 1)) t = _ ∧ ∀ k e, ur.2.2[k]? = some e → upd (ar 22) (10 * i + tr.2.2.length) d (10 * t + k) = _ ∧ upd (ar 23) (10 * i + tr.2.2.length) pa (10 * t + k) = _
    rcases set_at hu with ⟨c, e, -⟩ | ⟨c, hu⟩
    · subst c e
      refine ⟨by rw [pk_us, List.length_append]; rfl, fun k e he => ?_⟩
      have he : (tr.2.2 ++ [(d, pa)])[k]? = some e := he
      rcases getA he with ⟨he, hk⟩ | ⟨c, e9⟩
      · rw [pk_un (by omega), pk_un (by omega)]
        exact (m12 t tr ht).2 k e he
      · subst c e9; rw [pk_us, pk_us]; exact ⟨rfl, rfl⟩
    · refine ⟨(pk_un c).trans (m12 t ur hu).1, fun k e he => ?_⟩
      have hk := lt_of_get he
      have hu10 : ur.2.2.length ≤ 10 := by
        obtain ⟨pa, lo, f, le, n, -, -, -, -, -, -, -, -, -, -, -, -, -, -, -, -, -, hh⟩ := hV.tv hu
        exact hh
      rw [pk_un (by omega), pk_un (by omega)]
      exact (m12 t ur hu).2 k e he
theorem dHas_app {es : Dy} {d v x : Int32} : dHas (es ++ [(d, v)]) x = (dHas es x || decide (x = d)) := by
  apply Bool.eq_iff_iff.mpr
  rw [dHas_iff, Bool.or_eq_true, dHas_iff, decide_eq_true_eq, List.map_append, List.mem_append]
  simp
/-- another holiday -/
theorem holR.h0 {h0 h1 : Dy} {f : Nat → Int32} {d : Nat} {v : Int32} (h : holR h0 h1 f) (hd : d ≤ 3000) : holR (h0 ++ [(nI d, v)]) h1 (upd f d 1) := fun e he => by
  obtain ⟨a, b⟩ := h e he
  refine ⟨?_, by rw [pk_un (by omega)]; exact b⟩
  rw [dHas_app]
  by_cases c : e = d
  · subst c; rw [pk_us]; simp
  · rw [pk_un c, a, decide_eq_false (fun q => c ((nI_eq (by omega) (by omega)).mp q)), Bool.or_false]
theorem holR.h1 {h0 h1 : Dy} {f : Nat → Int32} {d : Nat} {v : Int32} (h : holR h0 h1 f) (hd : d ≤ 3000) : holR h0 (h1 ++ [(nI d, v)]) (upd f (3001 + d) 1) := fun e he => by
  obtain ⟨a, b⟩ := h e he
  refine ⟨by rw [pk_un (by omega)]; exact a, ?_⟩
  rw [dHas_app]
  by_cases c : e = d
  · subst c; rw [pk_us]; simp
  · rw [pk_un (by omega), b, decide_eq_false (fun q => c ((nI_eq (by omega) (by omega)).mp q)), Bool.or_false]
theorem MI.hol0 {sc : Nat → Int32} {ar : Nat → Nat → Int32} {h0 h1 fx : Dy} {ts : List TR} {B : BK} {d : Nat} {v : Int32} (h : MI sc ar h0 h1 fx ts B) (hd : d ≤ 3000) : MI sc (upA (upA ar 1 (upd (ar 1) d 1)) 2 (upd (ar 2) 0 (nI (h0.length + 1)))) (h0 ++ [(nI d, v)]) h1 fx ts B := by
  obtain ⟨m1, m2, m3, m4, m5, m6, m7, m8, m9, m10, m11, m12⟩ := h
  exact ⟨m1.h0 hd, ⟨by rw [List.length_append]; rfl, m2.2⟩, m3, m4, m5, fun t ur hu j hj => by rw [upA_ne (by omega), upA_ne (by omega)]; exact m6 t ur hu j hj, m7, m8, m9, m10, m11, m12⟩
theorem MI.hol1 {sc : Nat → Int32} {ar : Nat → Nat → Int32} {h0 h1 fx : Dy} {ts : List TR} {B : BK} {d : Nat} {v : Int32} (h : MI sc ar h0 h1 fx ts B) (hd : d ≤ 3000) : MI sc (upA (upA ar 1 (upd (ar 1) (3001 + d) 1)) 2 (upd (ar 2) 1 (nI (h1.length + 1)))) h0 (h1 ++ [(nI d, v)]) fx ts B := by
  obtain ⟨m1, m2, m3, m4, m5, m6, m7, m8, m9, m10, m11, m12⟩ := h
  exact ⟨m1.h1 hd, ⟨m2.1, by rw [List.length_append]; rfl⟩, m3, m4, m5, fun t ur hu j hj => by rw [upA_ne (by omega), upA_ne (by omega)]; exact m6 t ur hu j hj, m7, m8, m9, m10, m11, m12⟩
/-- the fixings -/
theorem ixL_none {d : Int32} {es : Dy} (h : ixL d 0 es = none) : ∀ x ∈ es, ¬ x.1 = d := fun x hx e => by
  have := ixL_of_mem es 0 (List.mem_map.mpr ⟨x, hx, e⟩)
  rw [h] at this
  cases this
theorem map_set {es : Dy} {j : Nat} {x y : Int32 × Int32} (h : es[j]? = some x) (e : y.1 = x.1) : (es.set j y).map (·.1) = es.map (·.1) := by
  rw [List.map_set]
  apply List.ext_getElem?
  intro i
  by_cases c : i = j
  · subst c
    have hl := lt_of_get h
    rw [List.getElem?_set_self (by rw [List.length_map]; exact hl), List.getElem?_map, h]
    show some y.1 = some x.1
    rw [e]
  · rw [List.getElem?_set_ne (fun q => c q.symm)]
theorem dPut_keys {es : Dy} {d v : Int32} : (dPut es d v).map (·.1) = if dHas es d then es.map (·.1) else es.map (·.1) ++ [d] := by
  unfold dPut dHas
  cases c : ixL d 0 es with
  | none => simp
  | some j =>
    obtain ⟨-, x, hx, hd⟩ := ixL_at es 0 j c
    rw [Nat.sub_zero] at hx
    show (es.set j (d, v)).map (·.1) = _
    rw [map_set hx hd.symm]
    rfl
theorem dPut_has {es : Dy} {d v x : Int32} : dHas (dPut es d v) x = (dHas es x || decide (x = d)) := by
  apply Bool.eq_iff_iff.mpr
  rw [dHas_iff (es := dPut es d v), dPut_keys, Bool.or_eq_true, dHas_iff (es := es) (d := x), decide_eq_true_eq]
  cases c : dHas es d with
  | true =>
    rw [if_pos rfl]
    exact ⟨Or.inl, fun q => q.elim id (fun e => by rw [e]; exact dHas_iff.mp c)⟩
  | false => simp
theorem dPut_mem {es : Dy} {d v : Int32} (hn : (es.map (·.1)).Nodup) {y : Int32 × Int32} (hy : y ∈ dPut es d v) : y = (d, v) ∨ (y ∈ es ∧ ¬ y.1 = d) := by
  unfold dPut at hy
  cases c : ixL d 0 es with
  | none =>
    rw [c] at hy
    rcases List.mem_append.mp hy with q | q
    · exact Or.inr ⟨q, ixL_none c y q⟩
    · exact Or.inl (List.mem_singleton.mp q)
  | some j =>
    rw [c] at hy
    obtain ⟨-, x, hx, hd⟩ := ixL_at es 0 j c
    rw [Nat.sub_zero] at hx
    obtain ⟨i, hi⟩ := List.getElem?_of_mem hy
    rcases set_at hi with ⟨c1, e, -⟩ | ⟨c1, hi⟩
    · exact Or.inl e
    · refine Or.inr ⟨List.mem_of_getElem? hi, fun e => c1 ?_⟩
      have l1 := lt_of_get hi
      have l2 := lt_of_get hx
      refine (List.getElem_inj (h₀ := by rw [List.length_map]; exact l1) (h₁ := by rw [List.length_map]; exact l2) hn).mp ?_
      rw [List.getElem_map, List.getElem_map]
      rw [(List.getElem?_eq_some_iff.mp hi).2, (List.getElem?_eq_some_iff.mp hx).2, e, hd]
theorem MI.fix {sc : Nat → Int32} {ar : Nat → Nat → Int32} {h0 h1 fx : Dy} {ts : List TR} {B : BK} {d : Nat} {r : Int32} (h : MI sc ar h0 h1 fx ts B) (hV : SV h0 h1 fx ts) (hd : d ≤ 3000) : MI (upd sc 5 (nI (dPut fx (nI d) r).length)) (upA (upA ar 3 (upd (ar 3) d 1)) 4 (upd (ar 4) d r)) h0 h1 (dPut fx (nI d) r) ts B := by
  obtain ⟨m1, m2, m3, m4, m5, m6, m7, m8, m9, m10, m11, m12⟩ := h
  refine ⟨m1, m2, fun e he => ?_, rfl, m5, fun t ur hu j hj => by rw [upA_ne (by omega), upA_ne (by omega)]; exact m6 t ur hu j hj, m7, m8, m9, m10, m11, m12⟩
  obtain ⟨a, b⟩ := m3 e he
  show upd (ar 3) d 1 e = _ ∧ ∀ v, _ → upd (ar 4) d r e = v
  constructor
  · rw [dPut_has]
    by_cases c : e = d
    · subst c; rw [pk_us]; simp
    · rw [pk_un c, a, decide_eq_false (fun q => c ((nI_eq (by omega) (by omega)).mp q)), Bool.or_false]
  · intro v hv
    rcases dPut_mem hV.2.2.2.2.2.2.1 hv with q | ⟨q, q2⟩
    · have q1 := congrArg (fun z : Int32 × Int32 => z.1) q
      have q2 := congrArg (fun z : Int32 × Int32 => z.2) q
      have q3 : nI e = nI d := q1
      have q4 : v = r := q2
      have c := (nI_eq (by omega) (by omega)).mp q3
      rw [c, pk_us, q4]
    · have c : e ≠ d := fun c => q2 (by rw [c])
      rw [pk_un c]
      exact b v q
theorem SV.fix {h0 h1 fx : Dy} {ts : List TR} (hV : SV h0 h1 fx ts) {d : Nat} {r : Int32} (hd : d ≤ 3000) (hl : (dPut fx (nI d) r).length ≤ 60) : SV h0 h1 (dPut fx (nI d) r) ts := by
  obtain ⟨v1, v2, v3, v4, v5, v6, v7, v8, v9⟩ := hV
  refine ⟨v1, v2, v3, v4, fun y hy => ?_, hl, ?_, v8, v9⟩
  · rcases dPut_mem v7 hy with q | q
    · rw [q]; exact ⟨d, hd, rfl⟩
    · exact v5 y q.1
  · rw [dPut_keys]
    cases c : dHas fx (nI d) with
    | true => exact v7
    | false =>
      rw [if_neg (by decide)]
      refine List.nodup_append.mpr ⟨v7, by simp, fun a ha b hb e => ?_⟩
      rw [List.mem_singleton.mp hb] at e
      subst e
      rw [dHas_iff.mpr ha] at c
      cases c
theorem SV.hol0 {h0 h1 fx : Dy} {ts : List TR} (hV : SV h0 h1 fx ts) {d : Nat} {v : Int32} (hd : d ≤ 3000) (hl : h0.length < 20) : SV (h0 ++ [(nI d, v)]) h1 fx ts := by
  obtain ⟨v1, v2, v3, v⟩ := hV
  refine ⟨by rw [List.length_append]; show h0.length + 1 ≤ 20; omega, v2, fun y hy => ?_, v⟩
  rcases List.mem_append.mp hy with q | q
  · exact v3 y q
  · rw [List.mem_singleton.mp q]; exact ⟨d, hd, rfl⟩
theorem SV.hol1 {h0 h1 fx : Dy} {ts : List TR} (hV : SV h0 h1 fx ts) {d : Nat} {v : Int32} (hd : d ≤ 3000) (hl : h1.length < 20) : SV h0 (h1 ++ [(nI d, v)]) fx ts := by
  obtain ⟨v1, v2, v3, v4, v⟩ := hV
  refine ⟨v1, by rw [List.length_append]; show h1.length + 1 ≤ 20; omega, v3, fun y hy => ?_, v⟩
  rcases List.mem_append.mp hy with q | q
  · exact v4 y q
  · rw [List.mem_singleton.mp q]; exact ⟨d, hd, rfl⟩
theorem SV.trd {h0 h1 fx : Dy} {ts : List TR} (hV : SV h0 h1 fx ts) {tr : TR} (h : TV tr) (hl : ts.length < 10) : SV h0 h1 fx (ts ++ [tr]) := by
  obtain ⟨v1, v2, v3, v4, v5, v6, v7, v8, v9⟩ := hV
  refine ⟨v1, v2, v3, v4, v5, v6, v7, by rw [List.length_append]; show ts.length + 1 ≤ 10; omega, fun y hy => ?_⟩
  rcases List.mem_append.mp hy with q | q
  · exact v9 y q
  · rw [List.mem_singleton.mp q]; exact h
theorem TV.setT {tr : TR} (h : TV tr) {sp dc co : Int32} (hdc : dc = 0 ∨ dc = 1) (hco : co = 0 ∨ co = 1 ∨ co = 2) : TV (setT tr.1 sp dc co, tr.2.1, tr.2.2) := by
  obtain ⟨pa, lo, f, le, n, v1, v2, v3, v4, v5, v6, v7, v8, t0, t1, t2, t4, t5, t6, t8, t9, tb, th⟩ := h
  exact ⟨pa, lo, f, le, n, v1, v2, v3, v4, v5, v6, v7, v8, t0, t1, t2, t4, t5, t6, hdc, hco, tb, th⟩
theorem TV.hnd {tr : TR} (h : TV tr) {d pa : Int32} (hl : tr.2.2.length < 10) : TV (tr.1, tr.2.1, tr.2.2 ++ [(d, pa)]) := by
  obtain ⟨pa, lo, f, le, n, v1, v2, v3, v4, v5, v6, v7, v8, t0, t1, t2, t4, t5, t6, t8, t9, tb, th⟩ := h
  exact ⟨pa, lo, f, le, n, v1, v2, v3, v4, v5, v6, v7, v8, t0, t1, t2, t4, t5, t6, t8, t9, tb, by show (tr.2.2 ++ _).length ≤ 10; rw [List.length_append]; show tr.2.2.length + 1 ≤ 10; omega⟩
theorem TV.new {pa lo py fi fs le pe : Int32} (g0 : inB pa 0 3 = true) (g1 : inB lo 1 1000 = true) (hp : py = 0 ∨ py = 1) (g3 : inB fs 0 1000 = true) (g4 : inB le 5 180 = true) (g5 : inB pe 1 10 = true) : TV (mkT pa lo py fi fs le pe, [], []) := by
  obtain ⟨a0, -, b0, e0⟩ := inB_nI2 (a := 0) (b := 3) g0
  obtain ⟨a1, c1, b1, e1⟩ := inB_nI2 (a := 1) (b := 1000) g1
  obtain ⟨a3, -, b3, e3⟩ := inB_nI2 (a := 0) (b := 1000) g3
  obtain ⟨a4, c4, b4, e4⟩ := inB_nI2 (a := 5) (b := 180) g4
  obtain ⟨a5, c5, b5, e5⟩ := inB_nI2 (a := 1) (b := 10) g5
  exact ⟨a0, a1, a3, a4, a5, b0, c1, b1, b3, c4, b4, c5, b5, e0, e1, hp, e3, e4, e5, Or.inl rfl, Or.inl rfl, fun y hy => absurd hy List.not_mem_nil, Nat.zero_le _⟩
theorem brk_nil {B : BK} {n : Nat} (h : ∀ e ∈ B, ∃ t, t < n ∧ e.1 = nI t) (hn : n < 2 ^ 31) : brk B n = [] := by
  induction B with
  | nil => rfl
  | cons e es ih =>
    rw [brk_mem]
    obtain ⟨t, ht, he⟩ := h e List.mem_cons_self
    rw [he, if_neg (fun q => by have := (nI_eq (by omega) hn).mp q; omega)]
    exact ih (fun y hy => h y (List.mem_cons_of_mem _ hy))
theorem MI.trd {sc : Nat → Int32} {ar : Nat → Nat → Int32} {h0 h1 fx : Dy} {ts : List TR} {B : BK} {pa lo py fi fs le pe : Int32} (h : MI sc ar h0 h1 fx ts B) (hn : ts.length < 10) : MI (upd sc 6 (nI (ts.length + 1))) (upA (upA (upA (upA (upA (upA (upA ar 7 (upd (ar 7) ts.length pa)) 8 (upd (ar 8) ts.length lo)) 9 (upd (ar 9) ts.length py)) 10 (upd (ar 10) ts.length fi)) 11 (upd (ar 11) ts.length fs)) 12 (upd (ar 12) ts.length le)) 13 (upd (ar 13) ts.length pe)) h0 h1 fx (ts ++ [(mkT pa lo py fi fs le pe, [], [])]) B := by
  obtain ⟨m1, m2, m3, m4, m5, m6, m7, m8, m9, m10, m11, m12⟩ := h
  obtain ⟨d1, d2, d3, d4⟩ := m7 ts.length (Nat.le_refl _) hn
  refine ⟨m1, m2, m3, m4, by rw [List.length_append]; rfl, fun t ur hu j hj => ?_, fun t h1' h2' => ?_, m8, m9, fun t ur hu => ?_, fun e he => ?_, fun t ur hu => ?_⟩
  · rcases getA hu with ⟨hu, hl⟩ | ⟨c, e⟩
    · have k := m6 t ur hu j hj
      rcases (show j = 0 ∨ j = 1 ∨ j = 2 ∨ j = 3 ∨ j = 4 ∨ j = 5 ∨ j = 6 ∨ j = 7 ∨ j = 8 ∨ j = 9 by omega) with q | q | q | q | q | q | q | q | q | q <;> subst q
      all_goals first | exact k | exact (pk_un (Nat.ne_of_lt hl)).trans k
    · subst c e
      rcases (show j = 0 ∨ j = 1 ∨ j = 2 ∨ j = 3 ∨ j = 4 ∨ j = 5 ∨ j = 6 ∨ j = 7 ∨ j = 8 ∨ j = 9 by omega) with q | q | q | q | q | q | q | q | q | q <;> subst q
      all_goals first | exact pk_us | exact d1 | exact d2 | exact d3
  · rw [List.length_append] at h1'
    exact m7 t (Nat.le_trans (Nat.le_succ _) h1') h2'
  · rcases getA hu with ⟨hu, hl⟩ | ⟨c, e⟩
    · exact m10 t ur hu
    · subst c e; exact (brk_nil m11 (by omega)).symm
  · obtain ⟨t, ht, e9⟩ := m11 e he
    exact ⟨t, by rw [List.length_append]; exact Nat.lt_succ_of_lt ht, e9⟩
  · rcases getA hu with ⟨hu, hl⟩ | ⟨c, e⟩
    · exact m12 t ur hu
    · subst c e; exact ⟨d4, fun k e he => by cases he⟩
