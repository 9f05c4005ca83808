/-! the rolled day is open: forty holidays don't close a thousand days -/
theorem pigeon {α : Type} [DecidableEq α] : ∀ (L : List α) (n : Nat) (f : Nat → α), (∀ j, j < n → f j ∈ L) → (∀ i j, i < n → j < n → f i = f j → i = j) → n ≤ L.length := by
  intro L
  induction L with
  | nil =>
    intro n f h _
    rcases Nat.eq_zero_or_pos n with q | q
    · omega
    · exact absurd (h 0 q) List.not_mem_nil
  | cons a L ih =>
    intro n f h inj
    by_cases c : ∃ j, j < n ∧ f j = a
    · obtain ⟨j0, hj0, e0⟩ := c
      have := ih (n - 1) (fun j => if j < j0 then f j else f (j + 1)) (fun j hj => by
        try dsimp only
        by_cases q : j < j0
        · rw [if_pos q]
          rcases List.mem_cons.mp (h j (by omega)) with r | r
          · exact absurd (inj j j0 (by omega) hj0 (r.trans e0.symm)) (by omega)
          · exact r
        · rw [if_neg q]
          rcases List.mem_cons.mp (h (j + 1) (by omega)) with r | r
          · exact absurd (inj (j + 1) j0 (by omega) hj0 (r.trans e0.symm)) (by omega)
          · exact r) (fun i j hi hj e => by
        try dsimp only at e
        by_cases qi : i < j0 <;> by_cases qj : j < j0
        · rw [if_pos qi, if_pos qj] at e; exact inj i j (by omega) (by omega) e
        · rw [if_pos qi, if_neg qj] at e; have := inj i (j + 1) (by omega) (by omega) e; omega
        · rw [if_neg qi, if_pos qj] at e; have := inj (i + 1) j (by omega) (by omega) e; omega
        · rw [if_neg qi, if_neg qj] at e; have := inj (i + 1) (j + 1) (by omega) (by omega) e; omega)
      rw [List.length_cons]
      omega
    · have := ih n f (fun j hj => by
        rcases List.mem_cons.mp (h j hj) with r | r
        · exact absurd ⟨j, hj, r⟩ c
        · exact r) inj
      rw [List.length_cons]
      omega
theorem ixL_mem {d : Int32} : ∀ (es : Dy) (i j : Nat), ixL d i es = some j → d ∈ es.map (·.1)
  | [], i, j, h => by simp [ixL] at h
  | x :: xs, i, j, h => by
    unfold ixL at h
    by_cases c : x.1 = d
    · simp [c]
    · rw [if_neg c] at h
      have := ixL_mem xs (i + 1) j h
      simp only [List.map_cons, List.mem_cons]
      exact Or.inr this
theorem ixL_of_mem {d : Int32} : ∀ (es : Dy) (i : Nat), d ∈ es.map (·.1) → (ixL d i es).isSome = true
  | [], i, h => by simp at h
  | x :: xs, i, h => by
    unfold ixL
    by_cases c : x.1 = d
    · rw [if_pos c]; rfl
    · rw [if_neg c]
      simp only [List.map_cons, List.mem_cons] at h
      exact ixL_of_mem xs (i + 1) (h.resolve_left (fun q => c q.symm))
theorem dHas_iff {es : Dy} {d : Int32} : dHas es d = true ↔ d ∈ es.map (·.1) := by
  constructor
  · intro h
    unfold dHas at h
    cases hx : ixL d 0 es with
    | none => rw [hx] at h; cases h
    | some j => exact ixL_mem es 0 j hx
  · exact ixL_of_mem es 0
theorem rolF_closed (h0 h1 : Dy) : ∀ n d, opn h0 h1 (rolF h0 h1 n d) = false → ∀ j, j < n → opn h0 h1 (d + j) = false
  | 0, d, _, j, hj => by omega
  | n + 1, d, h, j, hj => by
    unfold rolF at h
    cases c : opn h0 h1 d with
    | true => rw [c] at h; simp [c] at h
    | false =>
      rw [c] at h
      cases j with
      | zero => exact c
      | succ j =>
        have := rolF_closed h0 h1 n (d + 1) (by simpa using h) j (by omega)
        rw [show d + (j + 1) = d + 1 + j by omega]
        exact this
theorem rolF_least (h0 h1 : Dy) : ∀ n d e, d ≤ e → e < rolF h0 h1 n d → opn h0 h1 e = false
  | 0, d, e, h, h2 => by unfold rolF at h2; omega
  | n + 1, d, e, h, h2 => by
    unfold rolF at h2
    cases c : opn h0 h1 d with
    | true => rw [c] at h2; simp at h2; omega
    | false =>
      rw [c] at h2
      rcases Nat.eq_or_lt_of_le h with q | q
      · rw [← q]; exact c
      · exact rolF_least h0 h1 n (d + 1) e q (by simpa using h2)
theorem opn_rol {h0 h1 : Dy} (n0 : h0.length ≤ 20) (n1 : h1.length ≤ 20) {d : Nat} (hd : d < 2 ^ 30) : opn h0 h1 (rol h0 h1 d) = true := by
  cases c : opn h0 h1 (rol h0 h1 d) with
  | true => rfl
  | false =>
    have hc := rolF_closed h0 h1 1000 d c
    have := pigeon ((h0.map (·.1)) ++ (h1.map (·.1))) 41 (fun j => nI (d + ((7 - d % 7) % 7 + 7 * j))) (fun j hj => by
      have h1' := hc ((7 - d % 7) % 7 + 7 * j) (by omega)
      have hm : (d + ((7 - d % 7) % 7 + 7 * j)) % 7 < 5 := by omega
      unfold opn at h1'
      rw [decide_eq_true hm] at h1'
      rw [List.mem_append]
      cases a : dHas h0 (nI (d + ((7 - d % 7) % 7 + 7 * j))) with
      | true => exact Or.inl (dHas_iff.mp a)
      | false =>
        cases b : dHas h1 (nI (d + ((7 - d % 7) % 7 + 7 * j))) with
        | true => exact Or.inr (dHas_iff.mp b)
        | false => rw [a, b] at h1'; simp at h1') (fun i j hi hj e => by
      have := (nI_eq (by omega) (by omega)).mp e
      omega)
    simp at this
    omega
theorem rol_ge (h0 h1 : Dy) (d : Nat) : d ≤ rol h0 h1 d := (rolF_ge h0 h1 1000 d).1
theorem rol_le (h0 h1 : Dy) (d : Nat) : rol h0 h1 d ≤ d + 1000 := (rolF_ge h0 h1 1000 d).2
theorem rol_least {h0 h1 : Dy} {d e : Nat} (h : d ≤ e) (ho : opn h0 h1 e = true) : rol h0 h1 d ≤ e := by
  rcases Nat.lt_or_ge e (rol h0 h1 d) with q | q
  · rw [rolF_least h0 h1 1000 d e h q] at ho; cases ho
  · exact q
theorem rol_mono {h0 h1 : Dy} (n0 : h0.length ≤ 20) (n1 : h1.length ≤ 20) {d e : Nat} (he : e < 2 ^ 30) (h : d ≤ e) : rol h0 h1 d ≤ rol h0 h1 e :=
  rol_least (Nat.le_trans h (rol_ge h0 h1 e)) (opn_rol n0 n1 he)
theorem rol_open {h0 h1 : Dy} {d : Nat} (h : opn h0 h1 d = true) : rol h0 h1 d = d := by
  have := rol_least (Nat.le_refl d) h
  have := rol_ge h0 h1 d
  omega
theorem rol_next {h0 h1 : Dy} (n0 : h0.length ≤ 20) (n1 : h1.length ≤ 20) {d : Nat} (hd : d + 1 < 2 ^ 30) (h : opn h0 h1 d = false) : rol h0 h1 (d + 1) = rol h0 h1 d := by
  have a1 := rol_mono n0 n1 hd (Nat.le_succ d)
  have a2 : d + 1 ≤ rol h0 h1 d := by
    have := rol_ge h0 h1 d
    rcases Nat.eq_or_lt_of_le this with q | q
    · have := opn_rol n0 n1 (d := d) (by omega)
      rw [← q, h] at this
      cases this
    · exact q
  have := rol_least a2 (opn_rol n0 n1 (by omega))
  omega
