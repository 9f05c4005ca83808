/-! the class's methods where they throw nothing -/
theorem XCon.con {E : ET} {y : MethodName} {b : ByteArray} {mL : Nat} {ret : Option FieldType} {k mc ms : Nat} {av : List Value} {H : Heap} {out out2 : Option Value → Heap → Prop} {bad : String → Prop} (h : XCon E y b mL ret k mc ms av H out bad) (hn : ∀ X, ¬ bad X) (ho : ∀ v H', out v H' → out2 v H') : Con E y b mL ret k mc ms av H out2 := by
  intro p e ha hc hk s m args below hf happ hP hK
  obtain ⟨n, o, h1, h2, h3, h4⟩ := h p e ha hc hk s m args below hf happ hP hK
  refine ⟨n, o, h1, h2, h3, ?_⟩
  rcases h4 with ⟨⟨v, q1, q2, q3⟩, hL⟩ | ⟨q, -, X, ce, L, hx, -⟩
  · exact ⟨⟨v, q1, ho _ _ q2, q3⟩, hL⟩
  · exact absurd hx.1 (hn X)
theorem nI_inj {a b : Nat} (h : nI a = nI b) (ha : a < 2 ^ 31) (hb : b < 2 ^ 31) : a = b := (nI_eq ha hb).mp h
theorem inB_of {j a b : Nat} (h1 : a ≤ j) (h2 : j ≤ b) (hb : b < 2 ^ 31) : inB (nI j) (nI a) (nI b) = true := by
  unfold inB
  rw [decide_eq_true (nI_le h1 (by omega)), decide_eq_true (nI_le h2 hb)]
  rfl
section NX
variable {E : ET} {ow : Nat → Nat × Nat} {x : Nat} {h0 h1 fx : Dy} {ts : List TR} {H : Heap}
theorem prd_ok {t k : Nat} {tr : TR} (hV : SV h0 h1 fx ts) (ht : ts[t]? = some tr) (hk : k < np tr) : trd ts (nI t) = some tr ∧ prd tr (nI k) = some k := by
  have h1' := lt_of_get ht
  have h2 := hV.tn
  have h3 := (hV.tv ht).n.2.2
  exact ⟨by rw [trd_nI (by omega)]; exact ht, prd_nI (by omega) hk⟩
theorem n_start {t k : Nat} {tr : TR} (hX : XR E ow x h0 h1 fx ts H) (hV : SV h0 h1 fx ts) (hK : BL ts) (ht : ts[t]? = some tr) (hk : k < np tr) : Con E yX4_start cX4_start 3 (some FieldType.int) 10 2 12 [.ref x, .int (nI t), .int (nI k)] H (o1 (some (.int (bfC h0 h1 tr.1 k))) (fun H' => H' = H)) := by
  obtain ⟨e1, e2⟩ := prd_ok hV ht hk
  refine (c_xstart E ow x h0 h1 fx ts (nI t) (nI k) H hX hV hK).con (fun X h => ?_) (fun v H' h => ?_)
  · have h2 := h.2; rw [e1] at h2; have h2 : prd tr (nI k) = none := h2; rw [e2] at h2; cases h2
  · obtain ⟨⟨ur, j, h1', h2⟩, h3⟩ := h
    rw [e1] at h1'
    have h1' : (prd tr (nI k)).map (fun j => (tr, j)) = some (ur, j) := h1'
    rw [e2] at h1'
    cases h1'
    exact ⟨h2, h3⟩
theorem n_end {t k : Nat} {tr : TR} (hX : XR E ow x h0 h1 fx ts H) (hV : SV h0 h1 fx ts) (hK : BL ts) (ht : ts[t]? = some tr) (hk : k < np tr) : Con E yX4_end cX4_end 3 (some FieldType.int) 10 2 12 [.ref x, .int (nI t), .int (nI k)] H (o1 (some (.int (bfC h0 h1 tr.1 (k + 1)))) (fun H' => H' = H)) := by
  obtain ⟨e1, e2⟩ := prd_ok hV ht hk
  refine (c_xend E ow x h0 h1 fx ts (nI t) (nI k) H hX hV hK).con (fun X h => ?_) (fun v H' h => ?_)
  · have h2 := h.2; rw [e1] at h2; have h2 : prd tr (nI k) = none := h2; rw [e2] at h2; cases h2
  · obtain ⟨⟨ur, j, h1', h2⟩, h3⟩ := h
    rw [e1] at h1'
    have h1' : (prd tr (nI k)).map (fun j => (tr, j)) = some (ur, j) := h1'
    rw [e2] at h1'
    cases h1'
    exact ⟨h2, h3⟩
theorem n_lots {t k : Nat} {tr : TR} (hX : XR E ow x h0 h1 fx ts H) (hV : SV h0 h1 fx ts) (hK : BL ts) (ht : ts[t]? = some tr) (hk : k < np tr) : Con E yX4_lots cX4_lots 3 (some FieldType.int) 10 2 12 [.ref x, .int (nI t), .int (nI k)] H (o1 (some (.int (lotS tr.1 tr.2.1 (bfC h0 h1 tr.1) k))) (fun H' => H' = H)) := by
  obtain ⟨e1, e2⟩ := prd_ok hV ht hk
  refine (c_xlots E ow x h0 h1 fx ts (nI t) (nI k) H hX hV hK).con (fun X h => ?_) (fun v H' h => ?_)
  · have h2 := h.2; rw [e1] at h2; have h2 : prd tr (nI k) = none := h2; rw [e2] at h2; cases h2
  · obtain ⟨⟨ur, j, h1', h2⟩, h3⟩ := h
    rw [e1] at h1'
    have h1' : (prd tr (nI k)).map (fun j => (tr, j)) = some (ur, j) := h1'
    rw [e2] at h1'
    cases h1'
    exact ⟨h2, h3⟩
theorem n_flow {t k : Nat} {tr : TR} (hX : XR E ow x h0 h1 fx ts H) (hV : SV h0 h1 fx ts) (hK : BL ts) (ht : ts[t]? = some tr) (hk : k < np tr) : Con E yX4_flow cX4_flow 3 (some FieldType.long) 10 2 12 [.ref x, .int (nI t), .int (nI k)] H (o1 (some (.long (flwS tr.1 tr.2.1 (bfC h0 h1 tr.1) fx k))) (fun H' => H' = H)) := by
  obtain ⟨e1, e2⟩ := prd_ok hV ht hk
  refine (c_xflow E ow x h0 h1 fx ts (nI t) (nI k) H hX hV hK).con (fun X h => ?_) (fun v H' h => ?_)
  · have h2 := h.2; rw [e1] at h2; have h2 : prd tr (nI k) = none := h2; rw [e2] at h2; cases h2
  · obtain ⟨⟨ur, j, h1', h2⟩, h3⟩ := h
    rw [e1] at h1'
    have h1' : (prd tr (nI k)).map (fun j => (tr, j)) = some (ur, j) := h1'
    rw [e2] at h1'
    cases h1'
    exact ⟨h2, h3⟩
theorem n_open {d : Nat} (hX : XR E ow x h0 h1 fx ts H) (hV : SV h0 h1 fx ts) (hK : BL ts) (hd : d ≤ 3000) : Con E yX4_isOpen cX4_isOpen 2 (some FieldType.boolean) 10 1 6 [.ref x, .int (nI d)] H (o1 (some (.int (if opn h0 h1 d then 1 else 0))) (fun H' => H' = H)) := by
  have hi : inB (nI d) 0 3000 = true := inB_of (Nat.zero_le _) hd (by decide)
  refine (c_xopen E ow x h0 h1 fx ts (nI d) H hX hV hK).con (fun X h => ?_) (fun v H' h => ?_)
  · rw [hi] at h; exact absurd h.2 (by decide)
  · obtain ⟨⟨-, h2⟩, h3⟩ := h
    rw [nI_clamp (by omega)] at h2
    exact ⟨h2, h3⟩
theorem n_roll {d : Nat} (hX : XR E ow x h0 h1 fx ts H) (hV : SV h0 h1 fx ts) (hK : BL ts) (hd : d ≤ 3000) : Con E yX4_roll cX4_roll 2 (some FieldType.int) 10 1 6 [.ref x, .int (nI d)] H (o1 (some (.int (nI (rol h0 h1 d)))) (fun H' => H' = H)) := by
  have hi : inB (nI d) 0 3000 = true := inB_of (Nat.zero_le _) hd (by decide)
  refine (c_xroll E ow x h0 h1 fx ts (nI d) H hX hV hK).con (fun X h => ?_) (fun v H' h => ?_)
  · rw [hi] at h; exact absurd h.2 (by decide)
  · obtain ⟨⟨-, h2⟩, h3⟩ := h
    rw [nI_clamp (by omega)] at h2
    exact ⟨h2, h3⟩
theorem n_party {t : Nat} {tr : TR} {day : Int32} (hX : XR E ow x h0 h1 fx ts H) (hV : SV h0 h1 fx ts) (hK : BL ts) (ht : ts[t]? = some tr) (hd : inB day 0 3000 = true) : Con E yX4_partyOn cX4_partyOn 4 (some FieldType.int) 10 2 12 [.ref x, .int (nI t), .int day] H (o1 (some (.int (hldS tr.1 tr.2.2 day))) (fun H' => H' = H)) := by
  have h1' := lt_of_get ht
  have h2 := hV.tn
  have e1 : trd ts (nI t) = some tr := by rw [trd_nI (by omega)]; exact ht
  have hcd : cdPO ts (nI t) day = 0 := by unfold cdPO; rw [e1, hd]; rfl
  refine (c_xparty E ow x h0 h1 fx ts (nI t) day H hX hV hK).con (fun X h => h.1 hcd) (fun v H' h => ?_)
  obtain ⟨⟨ur, q1, -, q3⟩, h3⟩ := h
  cases e1.symm.trans q1
  exact ⟨q3, h3⟩
theorem n_days {pa d1 d2 : Int32} (hX : XR E ow x h0 h1 fx ts H) (hV : SV h0 h1 fx ts) (hK : BL ts) (hcd : cdSpan pa d1 d2 = 0) : Con E yX4_cashOfDays cX4_cashOfDays 7 (some FieldType.long) 10 3 18 [.ref x, .int pa, .int d1, .int d2] H (o1 (some (.long (sumS h0 h1 fx pa d1 d2 0 ts))) (fun H' => H' = H)) :=
  (c_xdays E ow x h0 h1 fx ts pa d1 d2 H hX hV hK).con (fun X h => h.1 hcd) (fun v H' h => ⟨h.1.2, h.2⟩)
theorem n_bytr {pa d1 d2 : Int32} (hX : XR E ow x h0 h1 fx ts H) (hV : SV h0 h1 fx ts) (hK : BL ts) (hcd : cdSpan pa d1 d2 = 0) : Con E yX4_cashByTrades cX4_cashByTrades 7 (some FieldType.long) 10 3 18 [.ref x, .int pa, .int d1, .int d2] H (o1 (some (.long (sumS h0 h1 fx pa d1 d2 0 ts))) (fun H' => H' = H)) :=
  (c_xbytr E ow x h0 h1 fx ts pa d1 d2 H hX hV hK).con (fun X h => h.1 hcd) (fun v H' h => ⟨h.1.2, h.2⟩)
theorem n_next {pa d : Int32} (hX : XR E ow x h0 h1 fx ts H) (hV : SV h0 h1 fx ts) (hK : BL ts) (hcd : cdCash pa d = 0) : Con E yX4_nextFlow cX4_nextFlow 6 (some FieldType.int) 10 2 12 [.ref x, .int pa, .int d] H (o1 (some (.int (nxT h0 h1 pa d (-1) ts))) (fun H' => H' = H)) :=
  (c_xnext E ow x h0 h1 fx ts pa d H hX hV hK).con (fun X h => h.1 hcd) (fun v H' h => ⟨h.1.2, h.2⟩)
theorem n_hol {town d : Int32} (hX : XR E ow x h0 h1 fx ts H) (hV : SV h0 h1 fx ts) (hK : BL ts) (hcd : cdHol h0 h1 town d = 0) : Con E yX4_holiday cX4_holiday 4 (some FieldType.int) 10 4 70 [.ref x, .int town, .int d] H (o1 (some (.int (nI ((if town = 0 then h0 else h1).length + 1)))) (fun H' => XOut E ow x (if town = 0 then h0 ++ [(d, town)] else h0) (if town = 0 then h1 else h1 ++ [(d, town)]) fx ts H H')) :=
  (c_xhol E ow x h0 h1 fx ts town d H hX hV hK).con (fun X h => h.1 hcd) (fun v H' h => ⟨h.1.2, h.2⟩)
theorem n_fix {d r : Int32} (hX : XR E ow x h0 h1 fx ts H) (hV : SV h0 h1 fx ts) (hK : BL ts) (hcd : cdFix fx d r = 0) : Con E yX4_fix cX4_fix 3 (some FieldType.int) 10 4 (30 + 2 * fx.length) [.ref x, .int d, .int r] H (o1 (some (.int (nI (dPut fx d r).length))) (fun H' => XOut E ow x h0 h1 (dPut fx d r) ts H H')) :=
  (c_xfix E ow x h0 h1 fx ts d r H hX hV hK).con (fun X h => h.1 hcd) (fun v H' h => ⟨h.1.2, h.2⟩)
theorem n_trd {pa lo py fi fs le pe : Int32} (hX : XR E ow x h0 h1 fx ts H) (hV : SV h0 h1 fx ts) (hK : BL ts) (hpy : py = 0 ∨ py = 1) (hcd : cdTrd ts pa lo fi fs le pe = 0) : Con E yX4_trade cX4_trade 9 (some FieldType.int) 10 14 110 [.ref x, .int pa, .int lo, .int py, .int fi, .int fs, .int le, .int pe] H (o1 (some (.int (nI ts.length))) (fun H' => XOut E ow x h0 h1 fx (ts ++ [(mkT pa lo py fi fs le pe, [], [])]) H H')) :=
  (c_xtrd E ow x h0 h1 fx ts pa lo py fi fs le pe H hX hV hK hpy).con (fun X h => h.1 hcd) (fun v H' h => ⟨h.1.2, h.2⟩)
theorem n_brk {t M : Nat} {tr : TR} {d lo : Int32} (hX : XR E ow x h0 h1 fx ts H) (hV : SV h0 h1 fx ts) (hK : BL ts) (hM : ∀ tr ∈ ts, tr.2.1.length ≤ M) (hM5 : M ≤ 5000) (ht : ts[t]? = some tr) (hcd : cdBrk ts (nI t) d lo = 0) : Con E yX4_breakPart cX4_breakPart 5 (some FieldType.int) 10 6 (60 + 2 * M) [.ref x, .int (nI t), .int d, .int lo] H (o1 (some (.int (nI (tr.2.1.length + 1)))) (fun H' => XOut E ow x h0 h1 fx (ts.set t (brT tr d lo)) H H')) := by
  have h1' := lt_of_get ht
  have h2 := hV.tn
  refine (c_xbrk E ow x h0 h1 fx ts (nI t) d lo M H hX hV hK hM hM5).con (fun X h => h.1 hcd) (fun v H' h => ?_)
  obtain ⟨ur, i, q1, q2, q3, q4, q5, q6, q7⟩ := h
  have e : t = i := nI_inj q2 (by omega) (by omega)
  subst e
  cases ht.symm.trans q4
  exact ⟨q6, q7⟩
theorem n_hnd {t : Nat} {tr : TR} {d pa : Int32} (hX : XR E ow x h0 h1 fx ts H) (hV : SV h0 h1 fx ts) (hK : BL ts) (ht : ts[t]? = some tr) (hcd : cdHnd ts (nI t) d pa = 0) : Con E yX4_handOver cX4_handOver 6 (some FieldType.int) 10 6 80 [.ref x, .int (nI t), .int d, .int pa] H (o1 (some (.int (hldS tr.1 tr.2.2 d))) (fun H' => XOut E ow x h0 h1 fx (ts.set t (tr.1, tr.2.1, tr.2.2 ++ [(d, pa)])) H H')) := by
  have h1' := lt_of_get ht
  have h2 := hV.tn
  refine (c_xhnd E ow x h0 h1 fx ts (nI t) d pa H hX hV hK).con (fun X h => h.1 hcd) (fun v H' h => ?_)
  obtain ⟨ur, i, q1, q2, q3, q4, q5, q6, q7⟩ := h
  have e : t = i := nI_inj q2 (by omega) (by omega)
  subst e
  cases ht.symm.trans q4
  exact ⟨q6, q7⟩
theorem n_press {d K KK : Nat} (hX : XR E ow x h0 h1 fx ts H) (hV : SV h0 h1 fx ts) (hK : BL ts) (hd : d ≤ 3000) (hK9 : ∀ tr ∈ ts, tr.2.1.length ≤ K) (hKK : K + (prs h0 h1 (nI d) ts).2.2.1 ≤ KK) (hKK5 : KK ≤ 5000) : Con E yX4_press cX4_press 5 (some FieldType.int) 10 (1 + 4 * (prs h0 h1 (nI d) ts).2.2.1) (6 + 2 * (2 + (2 * KK + 10)) * (prs h0 h1 (nI d) ts).2.2.1) [.ref x, .int (nI d)] H (o1 (some (.int (prs h0 h1 (nI d) ts).2.1)) (fun H' => XOut E ow x h0 h1 fx (prs h0 h1 (nI d) ts).1 H H')) := by
  have hi : inB (nI d) 0 3000 = true := inB_of (Nat.zero_le _) hd (by decide)
  refine (c_xpress E ow x h0 h1 fx ts (nI d) K KK H hX hV hK hK9 hKK hKK5).con (fun X h => ?_) (fun v H' h => ⟨h.1.2, h.2⟩)
  rw [hi] at h
  exact absurd h.2 (by decide)
end NX
