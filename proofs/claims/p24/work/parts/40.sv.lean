theorem set_at {α : Type} {l : List α} {i t : Nat} {x y : α} (h : (l.set i x)[t]? = some y) : (t = i ∧ y = x ∧ i < l.length) ∨ (t ≠ i ∧ l[t]? = some y) := by
  by_cases c : t = i
  · subst c
    have hl : t < l.length := by
      have := (List.getElem?_eq_some_iff.mp h).1
      rwa [List.length_set] at this
    rw [List.getElem?_set_self hl] at h
    cases h
    exact Or.inl ⟨rfl, rfl, hl⟩
  · rw [List.getElem?_set_ne (fun e => c e.symm)] at h
    exact Or.inr ⟨c, h⟩
theorem lt_of_get {α : Type} {l : List α} {i : Nat} {x : α} (h : l[i]? = some x) : i < l.length := (List.getElem?_eq_some_iff.mp h).1
theorem dHas_app {es : Dy} {d v x : Int32} : dHas (es ++ [(d, v)]) x = (dHas es x || decide (x = d)) := by
  apply Bool.eq_iff_iff.mpr
  rw [dHas_iff, Bool.or_eq_true, dHas_iff, decide_eq_true_eq, List.map_append, List.mem_append]
  simp
/-- the fixings -/
theorem ixL_none {d : Int32} {es : Dy} (h : ixL d 0 es = none) : ∀ x ∈ es, ¬ x.1 = d := fun x hx e => by
  have := ixL_of_mem es 0 (List.mem_map.mpr ⟨x, hx, e⟩)
  rw [h] at this
  cases this
theorem map_set {es : Dy} {j : Nat} {x y : Int32 × Int32} (h : es[j]? = some x) (e : y.1 = x.1) : (es.set j y).map (·.1) = es.map (·.1) := by
  rw [List.map_set]
  apply List.ext_getElem?
  intro i
  by_cases c : i = j
  · subst c
    have hl := lt_of_get h
    rw [List.getElem?_set_self (by rw [List.length_map]; exact hl), List.getElem?_map, h]
    show some y.1 = some x.1
    rw [e]
  · rw [List.getElem?_set_ne (fun q => c q.symm)]
theorem dPut_keys {es : Dy} {d v : Int32} : (dPut es d v).map (·.1) = if dHas es d then es.map (·.1) else es.map (·.1) ++ [d] := by
  unfold dPut dHas
  cases c : ixL d 0 es with
  | none => simp
  | some j =>
    obtain ⟨-, x, hx, hd⟩ := ixL_at es 0 j c
    rw [Nat.sub_zero] at hx
    show (es.set j (d, v)).map (·.1) = _
    rw [map_set hx hd.symm]
    rfl
theorem dPut_has {es : Dy} {d v x : Int32} : dHas (dPut es d v) x = (dHas es x || decide (x = d)) := by
  apply Bool.eq_iff_iff.mpr
  rw [dHas_iff (es := dPut es d v), dPut_keys, Bool.or_eq_true, dHas_iff (es := es) (d := x), decide_eq_true_eq]
  cases c : dHas es d with
  | true =>
    rw [if_pos rfl]
    exact ⟨Or.inl, fun q => q.elim id (fun e => by rw [e]; exact dHas_iff.mp c)⟩
  | false => simp
theorem dPut_mem {es : Dy} {d v : Int32} (hn : (es.map (·.1)).Nodup) {y : Int32 × Int32} (hy : y ∈ dPut es d v) : y = (d, v) ∨ (y ∈ es ∧ ¬ y.1 = d) := by
  unfold dPut at hy
  cases c : ixL d 0 es with
  | none =>
    rw [c] at hy
    rcases List.mem_append.mp hy with q | q
    · exact Or.inr ⟨q, ixL_none c y q⟩
    · exact Or.inl (List.mem_singleton.mp q)
  | some j =>
    rw [c] at hy
    obtain ⟨-, x, hx, hd⟩ := ixL_at es 0 j c
    rw [Nat.sub_zero] at hx
    obtain ⟨i, hi⟩ := List.getElem?_of_mem hy
    rcases set_at hi with ⟨c1, e, -⟩ | ⟨c1, hi⟩
    · exact Or.inl e
    · refine Or.inr ⟨List.mem_of_getElem? hi, fun e => c1 ?_⟩
      have l1 := lt_of_get hi
      have l2 := lt_of_get hx
      refine (List.getElem_inj (h₀ := by rw [List.length_map]; exact l1) (h₁ := by rw [List.length_map]; exact l2) hn).mp ?_
      rw [List.getElem_map, List.getElem_map]
      rw [(List.getElem?_eq_some_iff.mp hi).2, (List.getElem?_eq_some_iff.mp hx).2, e, hd]
theorem SV.fix {h0 h1 fx : Dy} {ts : List TR} (hV : SV h0 h1 fx ts) {d : Nat} {r : Int32} (hd : d ≤ 3000) (hl : (dPut fx (nI d) r).length ≤ 60) : SV h0 h1 (dPut fx (nI d) r) ts := by
  obtain ⟨v1, v2, v3, v4, v5, v6, v7, v8, v9⟩ := hV
  refine ⟨v1, v2, v3, v4, fun y hy => ?_, hl, ?_, v8, v9⟩
  · rcases dPut_mem v7 hy with q | q
    · rw [q]; exact ⟨d, hd, rfl⟩
    · exact v5 y q.1
  · rw [dPut_keys]
    cases c : dHas fx (nI d) with
    | true => exact v7
    | false =>
      rw [if_neg (by decide)]
      refine List.nodup_append.mpr ⟨v7, by simp, fun a ha b hb e => ?_⟩
      rw [List.mem_singleton.mp hb] at e
      subst e
      rw [dHas_iff.mpr ha] at c
      cases c
theorem SV.hol0 {h0 h1 fx : Dy} {ts : List TR} (hV : SV h0 h1 fx ts) {d : Nat} {v : Int32} (hd : d ≤ 3000) (hl : h0.length < 20) : SV (h0 ++ [(nI d, v)]) h1 fx ts := by
  obtain ⟨v1, v2, v3, v⟩ := hV
  refine ⟨by rw [List.length_append]; show h0.length + 1 ≤ 20; omega, v2, fun y hy => ?_, v⟩
  rcases List.mem_append.mp hy with q | q
  · exact v3 y q
  · rw [List.mem_singleton.mp q]; exact ⟨d, hd, rfl⟩
theorem SV.hol1 {h0 h1 fx : Dy} {ts : List TR} (hV : SV h0 h1 fx ts) {d : Nat} {v : Int32} (hd : d ≤ 3000) (hl : h1.length < 20) : SV h0 (h1 ++ [(nI d, v)]) fx ts := by
  obtain ⟨v1, v2, v3, v4, v⟩ := hV
  refine ⟨v1, by rw [List.length_append]; show h1.length + 1 ≤ 20; omega, v3, fun y hy => ?_, v⟩
  rcases List.mem_append.mp hy with q | q
  · exact v4 y q
  · rw [List.mem_singleton.mp q]; exact ⟨d, hd, rfl⟩
theorem SV.trd {h0 h1 fx : Dy} {ts : List TR} (hV : SV h0 h1 fx ts) {tr : TR} (h : TV tr) (hl : ts.length < 10) : SV h0 h1 fx (ts ++ [tr]) := by
  obtain ⟨v1, v2, v3, v4, v5, v6, v7, v8, v9⟩ := hV
  refine ⟨v1, v2, v3, v4, v5, v6, v7, by rw [List.length_append]; show ts.length + 1 ≤ 10; omega, fun y hy => ?_⟩
  rcases List.mem_append.mp hy with q | q
  · exact v9 y q
  · rw [List.mem_singleton.mp q]; exact h
theorem TV.hnd {tr : TR} (h : TV tr) {d pa : Int32} (hl : tr.2.2.length < 10) : TV (tr.1, tr.2.1, tr.2.2 ++ [(d, pa)]) := by
  obtain ⟨pa, lo, f, le, n, v1, v2, v3, v4, v5, v6, v7, v8, t0, t1, t2, t4, t5, t6, t8, t9, tb, th⟩ := h
  exact ⟨pa, lo, f, le, n, v1, v2, v3, v4, v5, v6, v7, v8, t0, t1, t2, t4, t5, t6, t8, t9, tb, by show (tr.2.2 ++ _).length ≤ 10; rw [List.length_append]; show tr.2.2.length + 1 ≤ 10; omega⟩
theorem TV.new {pa lo py fi fs le pe : Int32} (g0 : inB pa 0 3 = true) (g1 : inB lo 1 1000 = true) (hp : py = 0 ∨ py = 1) (g3 : inB fs 0 1000 = true) (g4 : inB le 5 180 = true) (g5 : inB pe 1 10 = true) : TV (mkT pa lo py fi fs le pe, [], []) := by
  obtain ⟨a0, -, b0, e0⟩ := inB_nI2 (a := 0) (b := 3) g0
  obtain ⟨a1, c1, b1, e1⟩ := inB_nI2 (a := 1) (b := 1000) g1
  obtain ⟨a3, -, b3, e3⟩ := inB_nI2 (a := 0) (b := 1000) g3
  obtain ⟨a4, c4, b4, e4⟩ := inB_nI2 (a := 5) (b := 180) g4
  obtain ⟨a5, c5, b5, e5⟩ := inB_nI2 (a := 1) (b := 10) g5
  exact ⟨a0, a1, a3, a4, a5, b0, c1, b1, b3, c4, b4, c5, b5, e0, e1, hp, e3, e4, e5, Or.inl rfl, Or.inl rfl, fun y hy => absurd hy List.not_mem_nil, Nat.zero_le _⟩
theorem tv_brT2 {tr : TR} (h : TV tr) {d : Int32} (hd : inB d 0 3000 = true) (v : Int32) : TV (brT tr d v) := by
  obtain ⟨j, hj, e⟩ := inB_nI (n := 3000) hd
  rw [e]
  exact h.brT hj v
theorem TV.bf {tr : TR} {h0 h1 : Dy} (h : TV tr) : ∃ f le : Nat, f ≤ 1000 ∧ le ≤ 180 ∧ np tr ≤ 10 ∧ ∀ k, k ≤ np tr → bfC h0 h1 tr.1 k = nI (rol h0 h1 (f + k * le)) := by
  obtain ⟨n6, n1, n10⟩ := h.n
  obtain ⟨f, le, n, t4, t5, t6, vf, vl, vn⟩ := h.t
  exact ⟨f, le, vf, vl, n10, fun k hk => bfC_eq t4 t5 n6 (by omega) (by omega) (by omega) hk⟩
