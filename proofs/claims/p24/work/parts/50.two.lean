/-! both worlds side by side at the law's loop; what a call's answer 0 says of the new state -/
theorem old9 {E : ET} {s : State} {H H1 : Heap} {locs locs1 : List Loc} (hB : eB E ≤ s.heap.size) (hS : va_S (fr E) s.heap H locs) (hS1 : va_S (fr E) s.heap H1 locs1) : ∀ q : Nat, q < eB E → H1[q]? = H[q]? := fun q h =>
  (hS1.2.1 q (Nat.lt_of_lt_of_le h hB) (Nat.not_le_of_lt h)).trans (hS.2.1 q (Nat.lt_of_lt_of_le h hB) (Nat.not_le_of_lt h)).symm
/-! what answer 0 says -/
theorem sv_hol {h0 h1 fx : Dy} {ts : List TR} {town d : Int32} (hV : SV h0 h1 fx ts) (h : cdHol h0 h1 town d = 0) : SV (if town = 0 then h0 ++ [(d, town)] else h0) (if town = 0 then h1 else h1 ++ [(d, town)]) fx ts := by
  unfold cdHol at h
  by_cases c1 : inB town 0 1 = true
  · rw [if_pos c1] at h
    by_cases hd : inB d 0 3000 = true
    · rw [if_pos hd] at h
      by_cases hn : (decide (20 ≤ (if town = 0 then h0 else h1).length) || dHas (if town = 0 then h0 else h1) d) = true
      · rw [if_pos hn] at h; exact absurd h (by decide)
      · obtain ⟨j, hj, e⟩ := inB_nI (n := 3000) hd
        have hl : (if town = 0 then h0 else h1).length < 20 := by
          rcases Nat.lt_or_ge (if town = 0 then h0 else h1).length 20 with q | q
          · exact q
          · have q : 20 ≤ (if town = 0 then h0 else h1).length := q
            exact absurd (by rw [decide_eq_true q]; rfl) hn
        rw [e]
        by_cases c : town = 0
        · rw [if_pos c] at hl
          rw [if_pos c, if_pos c]
          exact hV.hol0 hj hl
        · rw [if_neg c] at hl
          rw [if_neg c, if_neg c]
          exact hV.hol1 hj hl
    · rw [if_neg hd] at h; exact absurd h (by decide)
  · rw [if_neg c1] at h; exact absurd h (by decide)
theorem sv_fix {h0 h1 fx : Dy} {ts : List TR} {d r : Int32} (hV : SV h0 h1 fx ts) (h : cdFix fx d r = 0) : SV h0 h1 (dPut fx d r) ts := by
  unfold cdFix at h
  split at h
  · rename_i hd
    split at h
    · cases h
    · rename_i hn
      obtain ⟨j, hj, e⟩ := inB_nI (n := 3000) (Bool.and_eq_true_iff.mp hd).1
      have hl : (dPut fx d r).length ≤ 60 := by
        rw [dPut_len]
        cases c : dHas fx d with
        | true => rw [if_pos rfl]; exact hV.2.2.2.2.2.1
        | false =>
          rw [if_neg (by decide)]
          rcases Nat.lt_or_ge fx.length 60 with q | q
          · exact q
          · exact absurd (by rw [decide_eq_true q, c]; rfl) hn
      rw [e] at hl ⊢
      exact hV.fix hj hl
  · cases h
theorem sv_trd {h0 h1 fx : Dy} {ts : List TR} {pa lo py fi fs le pe : Int32} (hV : SV h0 h1 fx ts) (hpy : py = 0 ∨ py = 1) (h : cdTrd ts pa lo fi fs le pe = 0) : SV h0 h1 fx (ts ++ [(mkT pa lo py fi fs le pe, [], [])]) := by
  unfold cdTrd at h
  split at h
  · rename_i g0
    split at h
    · rename_i g
      split at h
      · cases h
      · rename_i hn
        obtain ⟨g1, g⟩ := Bool.and_eq_true_iff.mp g
        obtain ⟨g2, g⟩ := Bool.and_eq_true_iff.mp g
        obtain ⟨g3, g⟩ := Bool.and_eq_true_iff.mp g
        obtain ⟨g4, g5⟩ := Bool.and_eq_true_iff.mp g
        exact hV.trd (TV.new g0 g1 hpy g3 g4 g5) (by omega)
    · cases h
  · cases h
theorem trd_at {h0 h1 fx : Dy} {ts : List TR} {t : Int32} {i : Nat} {tr : TR} (hV : SV h0 h1 fx ts) (et : t = nI i) (ht : ts[i]? = some tr) : trd ts t = some tr := by
  have h1 := lt_of_get ht
  have h2 := hV.tn
  rw [et, trd_nI (by omega)]
  exact ht
theorem zc_hnd {ts : List TR} {hs : Dy} {i : Nat} {tr : TR} (ht : ts[i]? = some tr) : zc ts ≤ zc (ts.set i (tr.1, tr.2.1, hs)) := zc_set (u := (tr.1, tr.2.1, hs)) (tr := tr) (fun h => h) ts i ht
theorem sv_brk {h0 h1 fx : Dy} {ts : List TR} {t d lo : Int32} {i : Nat} {tr : TR} (hV : SV h0 h1 fx ts) (et : t = nI i) (ht : ts[i]? = some tr) (h : cdBrk ts t d lo = 0) : SV h0 h1 fx (ts.set i (brT tr d lo)) ∧ zc ts ≤ zc (ts.set i (brT tr d lo)) := by
  unfold cdBrk at h
  rw [trd_at hV et ht] at h
  dsimp only at h
  split at h
  · rename_i g
    obtain ⟨g1, g2⟩ := Bool.and_eq_true_iff.mp g
    split at h
    · cases h
    · rename_i hn
      refine ⟨hV.set (tv_brT2 (hV.tv ht) g1 lo), zc_set (fun e => ?_) ts i ht⟩
      rw [e] at hn
      obtain ⟨j, hj1, hj2, ej⟩ := inB_nI2 (a := 1) (b := 1000) g2
      refine absurd ?_ hn
      rw [ej]
      exact nI_lt (a := 0) (by omega) (by omega)
  · cases h
theorem sv_hnd {h0 h1 fx : Dy} {ts : List TR} {t d pa : Int32} {i : Nat} {tr : TR} (hV : SV h0 h1 fx ts) (et : t = nI i) (ht : ts[i]? = some tr) (h : cdHnd ts t d pa = 0) : SV h0 h1 fx (ts.set i (tr.1, tr.2.1, tr.2.2 ++ [(d, pa)])) := by
  unfold cdHnd at h
  rw [trd_at hV et ht] at h
  dsimp only at h
  split at h
  · split at h
    · split at h
      · cases h
      · rename_i hn
        exact hV.set ((hV.tv ht).hnd (by omega))
    · cases h
  · cases h
theorem PV.ou {h0 h1 fx : Dy} {n K d : Nat} (hd : d ≤ 3000) : ∀ r i (P : PS), PV h0 h1 fx n K P → PV h0 h1 fx n K (pou h0 h1 (nI d) n r i P)
  | 0, _, _, h => h
  | r + 1, i, _, h => PV.ou hd r (i + 1) _ (PV.in hd _ _ _ h)
theorem sv_prs {h0 h1 fx : Dy} {ts : List TR} {d : Int32} {K : Nat} (hV : SV h0 h1 fx ts) (hK : ∀ tr ∈ ts, tr.2.1.length ≤ K) (h : inB d 0 3000 = true) : SV h0 h1 fx (prs h0 h1 d ts).1 ∧ zc ts + (prs h0 h1 d ts).2.2.1 ≤ zc (prs h0 h1 d ts).1 := by
  refine ⟨?_, zc_prs (of_decide_eq_true (Bool.and_eq_true_iff.mp h).2)⟩
  obtain ⟨j, hj, e⟩ := inB_nI (n := 3000) h
  rw [e]
  exact (PV.ou (K := K) hj ts.length 0 (ts, 0, 0, []) ⟨rfl, hV, hK⟩).2.1
/-! pressing on a day that isn't one -/
theorem pst_cn (h0 h1 : Dy) (day : Int32) (i j : Nat) (P : PS) : (pst h0 h1 day i j P).2.2.1 ≤ P.2.2.1 + 1 := by
  unfold pst
  split
  · split
    · exact Nat.le_refl _
    · exact Nat.le_succ _
  · exact Nat.le_succ _
theorem pin_cn (h0 h1 : Dy) (day : Int32) (i : Nat) : ∀ r j P, (pin h0 h1 day i r j P).2.2.1 ≤ P.2.2.1 + r
  | 0, _, _ => Nat.le_refl _
  | r + 1, j, P => by
    have a1 := pst_cn h0 h1 day i j P
    have a2 := pin_cn h0 h1 day i r (j + 1) (pst h0 h1 day i j P)
    show (pin h0 h1 day i r (j + 1) (pst h0 h1 day i j P)).2.2.1 ≤ P.2.2.1 + (r + 1)
    omega
theorem pou_cn (h0 h1 : Dy) (day : Int32) (n : Nat) (hn : n ≤ 10) : ∀ r i P, (pou h0 h1 day n r i P).2.2.1 ≤ P.2.2.1 + 10 * r
  | 0, _, _ => Nat.le_refl _
  | r + 1, i, P => by
    have a1 := pin_cn h0 h1 day i (n - (i + 1)) (i + 1) P
    have a2 := pou_cn h0 h1 day n hn r (i + 1) (pin h0 h1 day i (n - (i + 1)) (i + 1) P)
    show (pou h0 h1 day n r (i + 1) (pin h0 h1 day i (n - (i + 1)) (i + 1) P)).2.2.1 ≤ P.2.2.1 + 10 * (r + 1)
    omega
theorem prs_cn (h0 h1 : Dy) (day : Int32) (ts : List TR) (hn : ts.length ≤ 10) : (prs h0 h1 day ts).2.2.1 ≤ 100 := by
  have := pou_cn h0 h1 day ts.length hn ts.length 0 (ts, 0, 0, [])
  have : (prs h0 h1 day ts).2.2.1 ≤ 0 + 10 * ts.length := this
  omega
