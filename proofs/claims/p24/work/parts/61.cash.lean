/-! the law's own sums: all flows that are paid from one day to another, whoever holds the trade -/
def pdS (T : Nat → Int32) (bs : Dy) (bf : Nat → Int32) (fx : Dy) (d1 d2 : Int32) : Nat → Int64
  | 0 => 0
  | k + 1 => if d1 ≤ bf (k + 1) ∧ bf (k + 1) ≤ d2 then pdS T bs bf fx d1 d2 k + flwS T bs bf fx k else pdS T bs bf fx d1 d2 k
def pd1 (h0 h1 fx : Dy) (d1 d2 : Int32) (tr : TR) : Int64 := pdS tr.1 tr.2.1 (bfC h0 h1 tr.1) fx d1 d2 (np tr)
def pdL (h0 h1 fx : Dy) (d1 d2 : Int32) : List TR → Int64
  | [] => 0
  | tr :: us => pd1 h0 h1 fx d1 d2 tr + pdL h0 h1 fx d1 d2 us
/-- a party -/
def P4 (v : Int32) : Prop := v = 0 ∨ v = 1 ∨ v = 2 ∨ v = 3
theorem lvL_P {P : Int32 → Prop} {day : Int32} : ∀ (es : Dy) (lt v : Int32), P v → (∀ x ∈ es, P x.2) → P (lvL day lt v es)
  | [], _, _, hv, _ => hv
  | x :: xs, lt, v, hv, h => by
    unfold lvL
    by_cases c : x.1 ≤ day ∧ lt ≤ x.1
    · rw [if_pos c]; exact lvL_P xs _ _ (h x List.mem_cons_self) (fun y hy => h y (List.mem_cons_of_mem _ hy))
    · rw [if_neg c]; exact lvL_P xs _ _ hv (fun y hy => h y (List.mem_cons_of_mem _ hy))
/-- who holds a trade is a party -/
def HV (tr : TR) : Prop := P4 (tr.1 0) ∧ ∀ x ∈ tr.2.2, P4 x.2
theorem HV.p {tr : TR} (h : HV tr) (day : Int32) : P4 (hldS tr.1 tr.2.2 day) := lvL_P tr.2.2 _ _ h.1 h.2
theorem i64_1 (a b c d f : Int64) : a + f + b + c + d = a + b + c + d + f := by ac_rfl
theorem i64_2 (a b c d f : Int64) : a + (b + f) + c + d = a + b + c + d + f := by ac_rfl
theorem i64_3 (a b c d f : Int64) : a + b + (c + f) + d = a + b + c + d + f := by ac_rfl
theorem i64_4 (a b c d f : Int64) : a + b + c + (d + f) = a + b + c + d + f := by ac_rfl
theorem csh4 {T : Nat → Int32} {bs hs : Dy} {bf : Nat → Int32} {fx : Dy} {d1 d2 : Int32} (hh : ∀ day, P4 (hldS T hs day)) (k : Nat) : cshS T bs hs bf fx 0 d1 d2 k + cshS T bs hs bf fx 1 d1 d2 k + cshS T bs hs bf fx 2 d1 d2 k + cshS T bs hs bf fx 3 d1 d2 k = pdS T bs bf fx d1 d2 k := by
  induction k with
  | zero => show (0 : Int64) + 0 + 0 + 0 = 0; decide
  | succ k ih =>
    unfold cshS pdS
    by_cases c : d1 ≤ bf (k + 1) ∧ bf (k + 1) ≤ d2
    · have hn : ∀ v w : Int32, hldS T hs (bf (k + 1)) = v → ¬ v = w → ¬ (d1 ≤ bf (k + 1) ∧ bf (k + 1) ≤ d2 ∧ hldS T hs (bf (k + 1)) = w) := fun v w e n q => n (e.symm.trans q.2.2)
      rw [if_pos c, ← ih]
      rcases hh (bf (k + 1)) with e | e | e | e
      · rw [if_pos ⟨c.1, c.2, e⟩, if_neg (hn _ 1 e (by decide)), if_neg (hn _ 2 e (by decide)), if_neg (hn _ 3 e (by decide))]
        exact i64_1 _ _ _ _ _
      · rw [if_neg (hn _ 0 e (by decide)), if_pos ⟨c.1, c.2, e⟩, if_neg (hn _ 2 e (by decide)), if_neg (hn _ 3 e (by decide))]
        exact i64_2 _ _ _ _ _
      · rw [if_neg (hn _ 0 e (by decide)), if_neg (hn _ 1 e (by decide)), if_pos ⟨c.1, c.2, e⟩, if_neg (hn _ 3 e (by decide))]
        exact i64_3 _ _ _ _ _
      · rw [if_neg (hn _ 0 e (by decide)), if_neg (hn _ 1 e (by decide)), if_neg (hn _ 2 e (by decide)), if_pos ⟨c.1, c.2, e⟩]
        exact i64_4 _ _ _ _ _
    · have hn : ∀ w : Int32, ¬ (d1 ≤ bf (k + 1) ∧ bf (k + 1) ≤ d2 ∧ hldS T hs (bf (k + 1)) = w) := fun w q => c ⟨q.1, q.2.1⟩
      rw [if_neg c, if_neg (hn 0), if_neg (hn 1), if_neg (hn 2), if_neg (hn 3)]
      exact ih
theorem i64_5 (a b c d x y z w : Int64) : a + x + (b + y) + (c + z) + (d + w) = (a + b + c + d) + (x + y + z + w) := by ac_rfl
/-- the cash of all parties is that of all flows -/
theorem cash4 {h0 h1 fx : Dy} {d1 d2 : Int32} : ∀ us : List TR, (∀ tr ∈ us, HV tr) → sumS h0 h1 fx 0 d1 d2 0 us + sumS h0 h1 fx 1 d1 d2 0 us + sumS h0 h1 fx 2 d1 d2 0 us + sumS h0 h1 fx 3 d1 d2 0 us = pdL h0 h1 fx d1 d2 us
  | [], _ => by show (0 : Int64) + 0 + 0 + 0 = 0; decide
  | tr :: us, h => by
    rw [sumS_c0, sumS_c0, sumS_c0, sumS_c0, i64_5, cash4 us (fun y hy => h y (List.mem_cons_of_mem _ hy))]
    have e : csh1 h0 h1 fx 0 d1 d2 tr + csh1 h0 h1 fx 1 d1 d2 tr + csh1 h0 h1 fx 2 d1 d2 tr + csh1 h0 h1 fx 3 d1 d2 tr = pd1 h0 h1 fx d1 d2 tr := csh4 (h tr List.mem_cons_self).p _
    rw [e]
    rfl
/-! the next pay day of the party that holds a trade on one of its pay days is that day -/
def nbO (day v : Int32) : Prop := v = -1 ∨ day ≤ v
theorem npS_nb {T : Nat → Int32} {hs : Dy} {bf : Nat → Int32} {pa day : Int32} : ∀ r k, nbO day (npS T hs bf pa day r k)
  | 0, _ => Or.inl rfl
  | r + 1, k => by
    unfold npS
    by_cases c : day ≤ bf (k + 1) ∧ hldS T hs (bf (k + 1)) = pa
    · rw [if_pos c]; exact Or.inr c.1
    · rw [if_neg c]; exact npS_nb r (k + 1)
theorem npS_hit {T : Nat → Int32} {hs : Dy} {bf : Nat → Int32} {pa day : Int32} {k : Nat} (hm : ∀ j, j ≤ k → bf (j + 1) ≤ day) (hd : bf (k + 1) = day) (hp : hldS T hs day = pa) : ∀ r j, j ≤ k → k < j + r → npS T hs bf pa day r j = day
  | 0, j, h1, h2 => by omega
  | r + 1, j, h1, h2 => by
    unfold npS
    by_cases c : day ≤ bf (j + 1) ∧ hldS T hs (bf (j + 1)) = pa
    · rw [if_pos c]; exact Int32.le_antisymm (hm j h1) c.1
    · rw [if_neg c]
      rcases Nat.eq_or_lt_of_le h1 with q | q
      · subst q
        exact absurd ⟨by rw [hd]; exact Int32.le_refl _, by rw [hd]; exact hp⟩ c
      · exact npS_hit hm hd hp r (j + 1) q (by omega)
theorem minO_nb {day a b : Int32} (ha : nbO day a) (hb : nbO day b) : nbO day (minO a b) := by
  unfold minO
  by_cases c1 : b = -1
  · rw [if_pos c1]; exact ha
  · rw [if_neg c1]
    by_cases c2 : a = -1
    · rw [if_pos c2]; exact hb
    · rw [if_neg c2]
      by_cases c3 : b < a
      · rw [if_pos c3]; exact hb
      · rw [if_neg c3]; exact ha
theorem minO_l {day b : Int32} (hd : ¬ day = -1) (hb : nbO day b) : minO day b = day := by
  unfold minO
  by_cases c1 : b = -1
  · rw [if_pos c1]
  · rw [if_neg c1, if_neg hd, if_neg (Int32.not_lt.mpr (hb.resolve_left c1))]
theorem minO_r {day a : Int32} (hd : ¬ day = -1) (ha : nbO day a) : minO a day = day := by
  unfold minO
  rw [if_neg hd]
  by_cases c2 : a = -1
  · rw [if_pos c2]
  · rw [if_neg c2]
    by_cases c3 : day < a
    · rw [if_pos c3]
    · rw [if_neg c3]; exact Int32.le_antisymm (Int32.not_lt.mp c3) (ha.resolve_left c2)
theorem nxT_stay {h0 h1 : Dy} {pa day : Int32} (hd : ¬ day = -1) : ∀ us : List TR, nxT h0 h1 pa day day us = day
  | [] => rfl
  | tr :: us => by
    unfold nxT
    rw [show minO day (npT h0 h1 pa day tr) = day from minO_l hd (npS_nb _ _)]
    exact nxT_stay hd us
theorem nxT_hit {h0 h1 : Dy} {pa day : Int32} (hd : ¬ day = -1) {tr : TR} (e : npT h0 h1 pa day tr = day) : ∀ (us : List TR) (v : Int32), nbO day v → tr ∈ us → nxT h0 h1 pa day v us = day
  | [], _, _, hm => absurd hm List.not_mem_nil
  | ur :: us, v, hv, hm => by
    unfold nxT
    by_cases c : npT h0 h1 pa day ur = day
    · rw [c, minO_r hd hv]; exact nxT_stay hd us
    · rcases List.mem_cons.mp hm with q | q
      · subst q; exact absurd e c
      · exact nxT_hit hd e us _ (minO_nb hv (npS_nb _ _)) q
/-! the days of a trade never go back -/
theorem bfC_mono {h0 h1 fx : Dy} {ts : List TR} {tr : TR} (hV : SV h0 h1 fx ts) (hT : TV tr) {j k : Nat} (hjk : j ≤ k) (hk : k ≤ np tr) : bfC h0 h1 tr.1 j ≤ bfC h0 h1 tr.1 k := by
  obtain ⟨f, le, vf, vl, n10, hb⟩ := hT.bf (h0 := h0) (h1 := h1)
  have h9 : k * le ≤ 10 * 180 := Nat.mul_le_mul (by omega) vl
  have h8 : j * le ≤ k * le := Nat.mul_le_mul_right le hjk
  rw [hb j (by omega), hb k hk]
  have e1 := rol_le h0 h1 (f + k * le)
  exact nI_le (rol_mono hV.1 hV.2.1 (by omega) (by omega)) (by omega)
theorem bfC_nat {h0 h1 : Dy} {tr : TR} (hT : TV tr) {k : Nat} (hk : k ≤ np tr) : ∃ m, m ≤ 4000 ∧ bfC h0 h1 tr.1 k = nI m := by
  obtain ⟨f, le, vf, vl, n10, hb⟩ := hT.bf (h0 := h0) (h1 := h1)
  have h9 : k * le ≤ 10 * 180 := Nat.mul_le_mul (by omega) vl
  have e1 := rol_le h0 h1 (f + k * le)
  exact ⟨_, by omega, hb k hk⟩
/-- what isCash asks of each of its flows -/
theorem next_hit {h0 h1 fx : Dy} {ts : List TR} {t k : Nat} {tr : TR} (hV : SV h0 h1 fx ts) (ht : ts[t]? = some tr) (hk : k < np tr) : nxT h0 h1 (hldS tr.1 tr.2.2 (bfC h0 h1 tr.1 (k + 1))) (bfC h0 h1 tr.1 (k + 1)) (-1) ts = bfC h0 h1 tr.1 (k + 1) := by
  have hT := hV.tv ht
  obtain ⟨m, hm, e⟩ := bfC_nat (h0 := h0) (h1 := h1) hT (k := k + 1) hk
  have hd : ¬ bfC h0 h1 tr.1 (k + 1) = -1 := fun q => by
    rw [e] at q
    exact nI_pos (n := m) (by omega) (by rw [q]; decide)
  refine nxT_hit hd (tr := tr) ?_ ts (-1) (Or.inl rfl) (List.mem_of_getElem? ht)
  exact npS_hit (k := k) (fun j hj => bfC_mono hV hT (by omega) (by omega)) rfl rfl (np tr) 0 (Nat.zero_le _) (by omega)
