/-! the reference's state beside the lists -/
abbrev BK : Type := List (Int32 × Int32 × Int32)
def dysIn (h : Dy) : Prop := ∀ x ∈ h, ∃ d, d ≤ 3000 ∧ x.1 = nI d
def TV (tr : TR) : Prop := ∃ pa lo f le n : Nat, pa ≤ 3 ∧ 1 ≤ lo ∧ lo ≤ 1000 ∧ f ≤ 1000 ∧ 5 ≤ le ∧ le ≤ 180 ∧ 1 ≤ n ∧ n ≤ 10 ∧ tr.1 0 = nI pa ∧ tr.1 1 = nI lo ∧ (tr.1 2 = 0 ∨ tr.1 2 = 1) ∧ tr.1 4 = nI f ∧ tr.1 5 = nI le ∧ tr.1 6 = nI n ∧ (tr.1 8 = 0 ∨ tr.1 8 = 1) ∧ (tr.1 9 = 0 ∨ tr.1 9 = 1 ∨ tr.1 9 = 2) ∧ dysIn tr.2.1 ∧ tr.2.2.length ≤ 10
def SV (h0 h1 fx : Dy) (ts : List TR) : Prop := h0.length ≤ 20 ∧ h1.length ≤ 20 ∧ dysIn h0 ∧ dysIn h1 ∧ dysIn fx ∧ fx.length ≤ 60 ∧ (fx.map (·.1)).Nodup ∧ ts.length ≤ 10 ∧ ∀ tr ∈ ts, TV tr
def bfC (h0 h1 : Dy) (T : Nat → Int32) (k : Nat) : Int32 := if k ≤ (T 6).toNatClampNeg then nI (rol h0 h1 ((T 4).toNatClampNeg + k * (T 5).toNatClampNeg)) else 0
theorem bfC_eq {h0 h1 : Dy} {T : Nat → Int32} {f le n k : Nat} (h4 : T 4 = nI f) (h5 : T 5 = nI le) (h6 : T 6 = nI n) (hf : f < 2 ^ 31) (hl : le < 2 ^ 31) (hn : n < 2 ^ 31) (hk : k ≤ n) : bfC h0 h1 T k = nI (rol h0 h1 (f + k * le)) := by
  unfold bfC
  rw [h4, h5, h6, nI_clamp hf, nI_clamp hl, nI_clamp hn, if_pos hk]
theorem dysIn_mem {h : Dy} (hI : dysIn h) {d : Int32} (hm : d ∈ h.map (·.1)) : ∃ k, k ≤ 3000 ∧ d = nI k := by
  obtain ⟨x, hx, rfl⟩ := List.mem_map.mp hm
  exact hI x hx
theorem dHas_out {h : Dy} (hI : dysIn h) {d : Nat} (h1 : 3000 < d) (h2 : d < 2 ^ 31) : dHas h (nI d) = false := by
  cases c : dHas h (nI d) with
  | false => rfl
  | true =>
    obtain ⟨k, hk, e⟩ := dysIn_mem hI (dHas_iff.mp c)
    have := (nI_eq h2 (by omega)).mp e
    omega
theorem lvL_skip {fx : Dy} (hI : dysIn fx) {a b : Nat} (hab : a ≤ b) (hb : b < 2 ^ 31) (hno : ∀ e, a < e → e ≤ b → e ≤ 3000 → dHas fx (nI e) = false) : ∀ lt v, lvL (nI b) lt v fx = lvL (nI a) lt v fx := by
  have key : ∀ x ∈ fx, (x.1 ≤ nI b ↔ x.1 ≤ nI a) := by
    intro x hx
    obtain ⟨k, hk, e⟩ := hI x hx
    rw [e, nI_leI (by omega) hb, nI_leI (by omega) (by omega)]
    constructor
    · intro h
      rcases Nat.lt_or_ge a k with q | q
      · have := hno k q h hk
        have h2 : dHas fx (nI k) = true := dHas_iff.mpr (List.mem_map.mpr ⟨x, hx, e⟩)
        rw [this] at h2; cases h2
      · exact q
    · intro h; omega
  clear hI hno
  induction fx with
  | nil => intro lt v; rfl
  | cons x xs ih =>
    intro lt v
    have hk := key x List.mem_cons_self
    have ih := ih (fun y hy => key y (List.mem_cons_of_mem _ hy))
    unfold lvL
    by_cases c : x.1 ≤ nI a ∧ lt ≤ x.1
    · rw [if_pos c, if_pos ⟨hk.mpr c.1, c.2⟩]; exact ih _ _
    · rw [if_neg c, if_neg (fun q => c ⟨hk.mp q.1, q.2⟩)]; exact ih _ _
theorem lvL_past {day w : Int32} : ∀ (es : Dy) , (∀ x ∈ es, ¬ x.1 = day) → lvL day day w es = w
  | [], _ => rfl
  | x :: xs, h => by
    unfold lvL
    rw [if_neg (fun q => h x List.mem_cons_self (Int32.le_antisymm q.1 q.2))]
    exact lvL_past xs (fun y hy => h y (List.mem_cons_of_mem _ hy))
theorem lvL_hit {day w : Int32} : ∀ (es : Dy) (lt v : Int32), lt ≤ day → (day, w) ∈ es → (es.map (·.1)).Nodup → lvL day lt v es = w
  | [], _, _, _, h, _ => absurd h List.not_mem_nil
  | x :: xs, lt, v, hlt, hm, hn => by
    unfold lvL
    rw [List.map_cons, List.nodup_cons] at hn
    rcases List.mem_cons.mp hm with e | e
    · subst e
      rw [if_pos ⟨Int32.le_refl _, hlt⟩]
      exact lvL_past xs (fun y hy q => hn.1 (List.mem_map.mpr ⟨y, hy, q⟩))
    · by_cases c : x.1 ≤ day ∧ lt ≤ x.1
      · rw [if_pos c]; exact lvL_hit xs _ _ c.1 e hn.2
      · rw [if_neg c]; exact lvL_hit xs _ _ hlt e hn.2
theorem lvL_none {day : Int32} : ∀ (es : Dy) (lt v : Int32), (∀ x ∈ es, ¬ x.1 ≤ day) → lvL day lt v es = v
  | [], _, _, _ => rfl
  | x :: xs, lt, v, h => by
    unfold lvL
    rw [if_neg (fun q => h x List.mem_cons_self q.1)]
    exact lvL_none xs lt v (fun y hy => h y (List.mem_cons_of_mem _ hy))
