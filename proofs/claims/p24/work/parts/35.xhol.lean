theorem inB_nI2 {v lo hi : Int32} {a b : Nat} (h : inB v lo hi = true) (ha : lo = nI a := by decide) (hb : hi = nI b := by decide) (hb2 : b < 2 ^ 31 := by decide) (ha2 : a < 2 ^ 31 := by decide) : ∃ j, a ≤ j ∧ j ≤ b ∧ v = nI j := by
  unfold inB at h
  rw [Bool.and_eq_true, decide_eq_true_eq, decide_eq_true_eq, ha, hb] at h
  obtain ⟨j, hj, e⟩ := nI_of (Int32.not_lt.mpr (Int32.le_trans (nI_pos' ha2) h.1))
  subst e
  exact ⟨j, (nI_leI ha2 hj).mp h.1, (nI_leI hj hb2).mp h.2, rfl⟩
theorem inB01 {v : Int32} (h : inB v 0 1 = true) : v = 0 ∨ v = 1 := by
  obtain ⟨j, -, h2, e⟩ := inB_nI2 (a := 0) (b := 1) h
  rcases (show j = 0 ∨ j = 1 by omega) with rfl | rfl
  · exact Or.inl e
  · exact Or.inr e
/-- the office while its trades still have the days of another calendar -/
def XRg (E : ET) (ow : Nat → Nat × Nat) (x q fd bk : Nat) (wa : Nat → Nat) (g0 g1 h0 h1 fx : Dy) (ts : List TR) (H : Heap) : Prop := OB E 5 [.ref q, .ref fd, .ref bk] x H ∧ CRo E ow q h0 h1 H ∧ DRo E ow 1 fd fx H ∧ LRo E ow 5 bk ts.length wa H ∧ (∀ t tr, ts[t]? = some tr → SRo E ow (10 + 3 * t) (wa t) tr (bfC g0 g1 tr.1) H) ∧ ow x = (0, 0) ∧ eB E ≤ x
theorem XRx.hol {E : ET} {ow ow' : Nat → Nat × Nat} {x q fd bk L : Nat} {wa : Nat → Nat} {h0 h1 k0 k1 fx : Dy} {ts : List TR} {H H' : Heap} (h : XRx E ow x q fd bk wa h0 h1 fx ts H) (hL : L = 2 ∨ L = 3) (hC : CRo E ow' q k0 k1 H') (low : ∀ q, q < eB E → H'[q]? = H[q]?) (hBF : eF E < eB E) (e1 : ∀ q, q < H.size → ow' q = ow q) (hF : FR (fun z => (ow z).1 = L) H H') : XRg E ow' x q fd bk wa h0 h1 k0 k1 fx ts H' := by
  obtain ⟨hO, -, hD, hLL, hT, hx, hg⟩ := h
  have hN : ∀ z, z < H.size → (ow z).1 ≠ L → H'[z]? = H[z]? := hF.2
  exact ⟨pk1 hO (hN x (plt hO) (by rw [hx]; show 0 ≠ L; omega)), hC, hD.kept low hBF (fun z h9 h8 => hN z h9 (by omega)) e1, hLL.kept low hBF (fun z h9 h8 => hN z h9 (by rcases h8 with e | e <;> (rw [e]; show 5 ≠ L; omega))) e1, fun t tr ht => (hT t tr ht).kept low hBF (fun z h9 h8 => hN z h9 (by omega)) e1, by rw [e1 x (plt hO)]; exact hx, hg⟩
theorem CRo.a0 {E : ET} {ow ow' : Nat → Nat × Nat} {q d0 d1 : Nat} {h1 k0 : Dy} {H H' : Heap} (hq : OB E 1 [.ref d0, .ref d1] q H) (h1' : DRo E ow 3 d1 h1 H) (hk : DRo E ow' 2 d0 k0 H') (how : ow q = (0, 1)) (hg : eB E ≤ q) (low : ∀ q, q < eB E → H'[q]? = H[q]?) (hBF : eF E < eB E) (e1 : ∀ q, q < H.size → ow' q = ow q) (hF : FR (fun z => (ow z).1 = 2) H H') : CRo E ow' q k0 h1 H' :=
  ⟨d0, d1, pk1 hq (hF.2 q (plt hq) (by show ¬ (ow q).1 = 2; rw [how]; decide)), hk, h1'.kept low hBF (fun z h9 h8 => hF.2 z h9 (by show ¬ (ow z).1 = 2; omega)) e1, by rw [e1 q (plt hq)]; exact how, hg⟩
theorem CRo.a1 {E : ET} {ow ow' : Nat → Nat × Nat} {q d0 d1 : Nat} {h0 k1 : Dy} {H H' : Heap} (hq : OB E 1 [.ref d0, .ref d1] q H) (h0' : DRo E ow 2 d0 h0 H) (hk : DRo E ow' 3 d1 k1 H') (how : ow q = (0, 1)) (hg : eB E ≤ q) (low : ∀ q, q < eB E → H'[q]? = H[q]?) (hBF : eF E < eB E) (e1 : ∀ q, q < H.size → ow' q = ow q) (hF : FR (fun z => (ow z).1 = 3) H H') : CRo E ow' q h0 k1 H' :=
  ⟨d0, d1, pk1 hq (hF.2 q (plt hq) (by show ¬ (ow q).1 = 3; rw [how]; decide)), h0'.kept low hBF (fun z h9 h8 => hF.2 z h9 (by show ¬ (ow z).1 = 3; omega)) e1, hk, by rw [e1 q (plt hq)]; exact how, hg⟩
theorem ite_i {α : Type} {t i : Nat} {a b : α} (h : ¬ t = i) : (if t < i + 1 then a else b) = (if t < i then a else b) := by
  by_cases c : t < i
  · rw [if_pos c, if_pos (by omega)]
  · rw [if_neg c, if_neg (by omega)]
def cdHol (h0 h1 : Dy) (town d : Int32) : Nat := if inB town 0 1 then (if inB d 0 3000 then (if decide (20 ≤ (if town = 0 then h0 else h1).length) || dHas (if town = 0 then h0 else h1) d then 3 else 0) else 2) else 1
def cdTrd (ts : List TR) (pa lo fi fs le pe : Int32) : Nat := if inB pa 0 3 then (if inB lo 1 1000 && (inB fi (-500) 2000 && (inB fs 0 1000 && (inB le 5 180 && inB pe 1 10))) then (if 10 ≤ ts.length then 3 else 0) else 2) else 1
theorem TV.t {tr : TR} (h : TV tr) : ∃ f le n : Nat, tr.1 4 = nI f ∧ tr.1 5 = nI le ∧ tr.1 6 = nI n ∧ f ≤ 1000 ∧ le ≤ 180 ∧ n ≤ 10 := by
  obtain ⟨pa, lo, f, le, n, v1, v2, v3, v4, v5, v6, v7, v8, t0, t1, t2, t4, t5, t6, -⟩ := h
  exact ⟨f, le, n, t4, t5, t6, v4, v6, v8⟩
theorem bfC_z {h0 h1 : Dy} {T : Nat → Int32} {n : Nat} (h6 : T 6 = nI n) (hn : n ≤ 10) : ∀ i, n < i → bfC h0 h1 T i = 0 := fun i hi => by
  unfold bfC
  rw [h6, nI_clamp (by omega), if_neg (Nat.not_le.mpr hi)]
/-- the state of the roll behind the trades before i -/
def RJ (E : ET) (ow : Nat → Nat × Nat) (x q fd bk : Nat) (wa : Nat → Nat) (g0 g1 h0 h1 fx : Dy) (ts : List TR) (i : Nat) (H0 H : Heap) : Prop := OB E 5 [.ref q, .ref fd, .ref bk] x H ∧ CRo E ow q h0 h1 H ∧ DRo E ow 1 fd fx H ∧ LRo E ow 5 bk ts.length wa H ∧ (∀ t tr, ts[t]? = some tr → SRo E ow (10 + 3 * t) (wa t) tr (if t < i then bfC h0 h1 tr.1 else bfC g0 g1 tr.1) H) ∧ FR (fun z => 10 ≤ (ow z).1) H0 H ∧ H.size = H0.size
theorem i32_lt2 {v : Int32} : v < 2 ↔ v ≤ 1 := by
  rw [Int32.lt_iff_toInt_lt, Int32.le_iff_toInt_le]
  show v.toInt < 2 ↔ v.toInt ≤ 1
  omega
theorem FR.lab4 {ow ow1 : Nat → Nat × Nat} {L : Nat} {H H1 H2 : Heap} (h : FR (fun z => (ow z).1 = L) H H1) (e1 : ∀ q, q < H.size → ow1 q = ow q) (e2 : ∀ q, H.size ≤ q → (ow1 q).1 = L) (h2 : FR (fun z => 10 ≤ (ow1 z).1) H1 H2) (hL : L ≠ 4 := by decide) : FR (fun z => (ow z).1 ≠ 4) H H2 :=
  ⟨Nat.le_trans h.1 h2.1, fun z hz hn => by
    have hn : ¬ (ow z).1 ≠ 4 := hn
    have e := e1 z hz
    exact (h2.2 z (Nat.lt_of_lt_of_le hz h.1) (by show ¬ 10 ≤ (ow1 z).1; rw [e]; omega)).trans (h.2 z hz (by show ¬ (ow z).1 = L; omega))⟩
set_option maxRecDepth 100000 in
set_option maxHeartbeats 4000000 in
/-- holidaysOf -/
theorem c_hof0 (E : ET) (q d0 d1 : Nat) (H : Heap) (hO : OB E 1 [.ref d0, .ref d1] q H) : PCon E yX0_holidaysOf cX0_holidaysOf 2 (some (FieldType.object "Resetline$Diary")) 1 [.ref q, .int 0] H (some (.ref d0)) := by
  refine PCon.of (C := RX0) rfl (by decide +kernel) (Nat.le_of_ble_eq_true rfl) ?_
  intro p e s m below meth co ls hx hb hr hlk hml hown hts hE hH hl
  have hl : lv_has ls 2 [(0, .ref q), (1, .int 0)] := hl
  refine lv_iload_n hx hb dX0_holidaysOf_0 rfl (lv_at hl 1 rfl) ?_
  refine lv_if_ne (tgt := 11) hx hb dX0_holidaysOf_1 (by decide) (fun c => ?_) (fun c => ?_)
  · exact absurd (by decide) c
  refine lv_aload_n hx hb dX0_holidaysOf_4 rfl (lv_at hl 0 rfl) ?_
  refine gf hx hb hts hown hE lkX0_12 hO rfl dX0_holidaysOf_5 ?_
  refine lv_goto (tgt := 15) hx hb dX0_holidaysOf_8 (by decide) ?_
  exact pA hx hb hr (Or.inl ⟨_, rfl⟩) (Or.inr ⟨_, rfl⟩) hlk hH rfl dX0_holidaysOf_15

set_option maxRecDepth 100000 in
set_option maxHeartbeats 4000000 in
/-- holidaysOf -/
theorem c_hof1 (E : ET) (q d0 d1 : Nat) (H : Heap) (hO : OB E 1 [.ref d0, .ref d1] q H) : PCon E yX0_holidaysOf cX0_holidaysOf 2 (some (FieldType.object "Resetline$Diary")) 1 [.ref q, .int 1] H (some (.ref d1)) := by
  refine PCon.of (C := RX0) rfl (by decide +kernel) (Nat.le_of_ble_eq_true rfl) ?_
  intro p e s m below meth co ls hx hb hr hlk hml hown hts hE hH hl
  have hl : lv_has ls 2 [(0, .ref q), (1, .int 1)] := hl
  refine lv_iload_n hx hb dX0_holidaysOf_0 rfl (lv_at hl 1 rfl) ?_
  refine lv_if_ne (tgt := 11) hx hb dX0_holidaysOf_1 (by decide) (fun c => ?_) (fun c => ?_)
  rotate_left
  · exact absurd c (by decide)
  refine lv_aload_n hx hb dX0_holidaysOf_11 rfl (lv_at hl 0 rfl) ?_
  refine gf hx hb hts hown hE lkX0_18 hO rfl dX0_holidaysOf_12 ?_
  exact pA hx hb hr (Or.inl ⟨_, rfl⟩) (Or.inr ⟨_, rfl⟩) hlk hH rfl dX0_holidaysOf_15

set_option maxRecDepth 100000 in
set_option maxHeartbeats 4000000 in
/-- rollAllTrades -/
theorem c_xrollall (E : ET) (ow : Nat → Nat × Nat) (x q fd bk : Nat) (wa : Nat → Nat) (g0 g1 h0 h1 fx : Dy) (ts : List TR) (H : Heap) (hX : XRg E ow x q fd bk wa g0 g1 h0 h1 fx ts H) (n0 : h0.length ≤ 20) (n1 : h1.length ≤ 20) (htn : ts.length ≤ 10) (htv : ∀ tr ∈ ts, TV tr) : Con E yX4_rollAllTrades cX4_rollAllTrades 2 (none : Option FieldType) 9 0 0 [.ref x] H (o1 none (fun H' => XRx E ow x q fd bk wa h0 h1 fx ts H' ∧ FR (fun z => 10 ≤ (ow z).1) H H' ∧ H'.size = H.size)) := by
  refine Con.of (C := RX4) rfl (by decide +kernel) (Nat.le_of_ble_eq_true rfl) ?_
  intro p e s m below meth co ls hx hb hr hlk hml hown hts hin hE hH hS hl
  have hl : lv_has ls 2 [(0, .ref x)] := hl
  have hB : eB E ≤ s.heap.size := by rw [hH]; exact hE.2.1
  have hBF := hE.2.2.1
  obtain ⟨-, -, -, -, -, hx0, hgx⟩ := id hX
  have hJ : RJ E ow x q fd bk wa g0 g1 h0 h1 fx ts 0 H H := ⟨hX.1, hX.2.1, hX.2.2.1, hX.2.2.2.1, fun t tr ht => by rw [if_neg (Nat.not_lt_zero t)]; exact hX.2.2.2.2.1 t tr ht, FR.rf, rfl⟩
  refine lv_iconst (v := 0) hx hb dX4_rollAllTrades_0 (by decide) ?_
  refine lv_istore_n (lv' := [(1, .int 0), (0, .ref x)]) hx hb dX4_rollAllTrades_1 rfl hl (by decide) rfl (fun ls hl => ?_)
  have loop : ∀ (r i : Nat) (G : Heap) (locs : List Loc) (ls : Array Slot), i + r = ts.length → RJ E ow x q fd bk wa g0 g1 h0 h1 fx ts i H G → EV E s G → va_S (fr E) s.heap G locs → lv_has ls 2 [(1, .int (nI i)), (0, .ref x)] → W p (eL E) e (rmk 9 0 0) s m ([.ref x]).toArray below meth co G locs 0 0 (MQ below (CQ E (o1 none (fun H' => XRx E ow x q fd bk wa h0 h1 fx ts H' ∧ FR (fun z => 10 ≤ (ow z).1) H H' ∧ H'.size = H.size))) ([.ref x]).toArray s 0 0 (fr E)) (F0 m 2 ls []) := by
    intro r
    induction r with
    | zero =>
      intro i G locs ls hi hJ hE hS hl
      obtain ⟨hO, hC, hD, hL0, hT, hFg, hzg⟩ := hJ
      have hL := hL0.LR (by omega)
      obtain ⟨fs0, hOb, hcl⟩ := hL.ob
      have hi2 : i = ts.length := by omega
      refine lv_iload_n hx hb dX4_rollAllTrades_2 rfl (lv_at hl 0 rfl) ?_
      refine lv_aload_n hx hb dX4_rollAllTrades_3 rfl (lv_at hl 1 rfl) ?_
      refine gf hx hb hts hown hE lkX4_26 hO rfl dX4_rollAllTrades_4 ?_
      refine pV hx hb hml hts hown hE kwX4_85 (c_size E bk ts.length wa G hL) hOb rfl (Nat.le_of_ble_eq_true rfl) rfl hl.1 rfl (Nat.le_of_ble_eq_true rfl) (by omega) (by omega) dX4_rollAllTrades_7 ?_
      refine lv_icmp_ge (tgt := 37) hx hb dX4_rollAllTrades_10 (by decide) (fun c9 => ?_) (fun c9 => ?_)
      rotate_left
      · exact absurd (nI_le (by omega) (by omega)) c9
      refine cU hx hb hr hlk hB hS (by omega) (by omega) (⟨rfl, ⟨hO, hC, hD, hL0, fun t tr ht => ?_, hx0, hgx⟩, hFg, hzg⟩) dX4_rollAllTrades_37
      have hlt := (List.getElem?_eq_some_iff.mp ht).1
      have h7 := hT t tr ht
      rw [if_pos (by omega)] at h7
      exact h7
    | succ r ih =>
      intro i G locs ls hi hJ hE hS hl
      obtain ⟨hO, hC, hD, hL0, hT, hFg, hzg⟩ := hJ
      have hL := hL0.LR (by omega)
      obtain ⟨fs0, hOb, hcl⟩ := hL.ob
      have hlt : i < ts.length := by omega
      have hE0 := hE
      obtain ⟨tr, ht⟩ := getq hlt
      refine lv_iload_n hx hb dX4_rollAllTrades_2 rfl (lv_at hl 0 rfl) ?_
      refine lv_aload_n hx hb dX4_rollAllTrades_3 rfl (lv_at hl 1 rfl) ?_
      refine gf hx hb hts hown hE lkX4_26 hO rfl dX4_rollAllTrades_4 ?_
      refine pV hx hb hml hts hown hE kwX4_85 (c_size E bk ts.length wa G hL) hOb rfl (Nat.le_of_ble_eq_true rfl) rfl hl.1 rfl (Nat.le_of_ble_eq_true rfl) (by omega) (by omega) dX4_rollAllTrades_7 ?_
      refine lv_icmp_ge (tgt := 37) hx hb dX4_rollAllTrades_10 (by decide) (fun c9 => ?_) (fun c9 => ?_)
      · exact absurd c9 (nI_ge hlt (by omega))
      have hSi := hT i tr ht
      rw [if_neg (Nat.lt_irrefl i)] at hSi
      obtain ⟨db, dh, bd, hW0, hdb, hdh, hbd, how, hob, gw, gb⟩ := hSi
      obtain ⟨f, le, n, t4, t5, t6, vf, vl, vn⟩ := (htv tr (List.mem_of_getElem? ht)).t
      refine lv_aload_n hx hb dX4_rollAllTrades_13 rfl (lv_at hl 1 rfl) ?_
      refine gf hx hb hts hown hE lkX4_26 hO rfl dX4_rollAllTrades_14 ?_
      refine lv_iload_n hx hb dX4_rollAllTrades_17 rfl (lv_at hl 0 rfl) ?_
      refine pV hx hb hml hts hown hE kwX4_134 (c_get E bk ts.length i wa G hL hlt) hOb rfl (Nat.le_of_ble_eq_true rfl) rfl hl.1 rfl (Nat.le_of_ble_eq_true rfl) (by omega) (by omega) dX4_rollAllTrades_18 ?_
      refine cst hx hb hts hown hE qw2_74 hW0 rfl dX4_rollAllTrades_21 ?_
      refine lv_aload_n hx hb dX4_rollAllTrades_24 rfl (lv_at hl 1 rfl) ?_
      refine gf hx hb hts hown hE lkX4_10 hO rfl dX4_rollAllTrades_25 ?_
      refine gVU hx hb hml hts hown hB hE hS kwX4_95 (c_rollDays E ow (10 + 3 * i) (wa i) q db dh bd f le n tr.1 (bfC g0 g1 tr.1) h0 h1 G hW0 hbd hC n0 n1 how hob (by omega) gb t4 t5 t6 vf vl vn (bfC_z t6 vn)) hW0 rfl (Nat.le_of_ble_eq_true rfl) rfl hl.1 rfl (Nat.le_of_ble_eq_true rfl) (by omega) (by omega) dX4_rollAllTrades_28 (fun H1 L1 hG hz1 hE hS => ?_)
      obtain ⟨hbd1, hF1, hz9⟩ := hG
      have lowG : ∀ z, z < eB E → H1[z]? = G[z]? := fun z hz => hF1.2 z (Nat.lt_of_lt_of_le hz hE0.2.1) (fun e => by have e : z = bd := e; omega)
      have hN : ∀ z, z < G.size → ow z ≠ (10 + 3 * i, 1) → H1[z]? = G[z]? := fun z h9 h8 => hF1.2 z h9 (fun e => h8 (by have e : z = bd := e; rw [e]; exact hob))
      have hN1 : ∀ z, z < G.size → (ow z).1 ≠ 10 + 3 * i → H1[z]? = G[z]? := fun z h9 h8 => hN z h9 (fun e => h8 (by rw [e]))
      have hJ1 : RJ E ow x q fd bk wa g0 g1 h0 h1 fx ts (i + 1) H H1 := by
        refine ⟨pk1 hO (hN1 x (plt hO) (by rw [hx0]; show 0 ≠ _; omega)), hC.kept lowG hBF (fun z h9 h8 => hN1 z h9 (by omega)) (fun _ _ => rfl), hD.kept lowG hBF (fun z h9 h8 => hN1 z h9 (by omega)) (fun _ _ => rfl), hL0.kept lowG hBF (fun z h9 h8 => hN1 z h9 (by rcases h8 with e | e <;> (rw [e]; show 5 ≠ _; omega))) (fun _ _ => rfl), fun t ur hu => ?_, hFg.tr hF1 (fun z hz e => by have e : z = bd := e; show 10 ≤ (ow z).1; rw [e, hob]; show 10 ≤ 10 + 3 * i; omega), by omega⟩
        by_cases ct : t = i
        · subst ct
          rw [ht] at hu
          cases hu
          rw [if_pos (by omega)]
          exact ⟨db, dh, bd, pk1 hW0 (hN _ (plt hW0) (by rw [how]; intro e; cases e)), hdb.kept lowG hBF (fun z h9 h8 => hN1 z h9 (by omega)) (fun _ _ => rfl), hdh.kept lowG hBF (fun z h9 h8 => hN1 z h9 (by omega)) (fun _ _ => rfl), hbd1, how, hob, gw, gb⟩
        · have h7 := (hT t ur hu).kept (ow' := ow) lowG hBF (fun z h9 h8 => hN1 z h9 (by omega)) (fun _ _ => rfl)
          rw [ite_i ct]
          exact h7
      refine lv_iinc (v := nI (i + 1)) (lv' := [(1, .int (nI (i + 1))), (0, .ref x)]) hx hb dX4_rollAllTrades_31 hl (k := 0) rfl (nI_1 i) (by decide) rfl (fun ls hl => ?_)
      refine lv_goto (tgt := 2) hx hb dX4_rollAllTrades_34 (by decide) ?_
      exact ih (i + 1) H1 L1 ls (by omega) hJ1 hE hS (lv_sub hl [0, 1] rfl)
  exact loop ts.length 0 H [] ls (by omega) hJ hE hS (lv_sub hl [0, 1] rfl)

set_option maxRecDepth 100000 in
set_option maxHeartbeats 4000000 in
/-- holiday -/
theorem c_xhol (E : ET) (ow : Nat → Nat × Nat) (x : Nat) (h0 h1 fx : Dy) (ts : List TR) (town d : Int32) (H : Heap) (hX : XR E ow x h0 h1 fx ts H) (hV : SV h0 h1 fx ts) (hK : BL ts)  : XCon E yX4_holiday cX4_holiday 4 (some FieldType.int) 10 4 70 [.ref x, .int town, .int d] H (fun v H' => (cdHol h0 h1 town d = 0 ∧ v = some (.int (nI ((if town = 0 then h0 else h1).length + 1)))) ∧ XOut E ow x (if town = 0 then h0 ++ [(d, town)] else h0) (if town = 0 then h1 else h1 ++ [(d, town)]) fx ts H H') (fun X => cdHol h0 h1 town d ≠ 0 ∧ X = xn2 (cdHol h0 h1 town d)) := by
  refine XCon.of (C := RX4) rfl (by decide +kernel) (Nat.le_of_ble_eq_true rfl) ?_
  intro p e s m below meth co ls hx hb hr hlk hml hown hts hxt hE hH hS hl
  have hl : lv_has ls 4 [(0, .ref x), (1, .int town), (2, .int d)] := hl
  have hB : eB E ≤ s.heap.size := by rw [hH]; exact hE.2.1
  have hE0 : EV E s s.heap := by rw [hH]; exact hE
  obtain ⟨q, fd, bk, wa, hX2⟩ := hX.x
  obtain ⟨hC, hD, hL, hT⟩ := hX2.rd hV hK
  have hO := hX2.1
  have hBF := hE.2.2.1
  have v0 := hV.1
  have v1 := hV.2.1
  refine lv_iload_n hx hb dX4_holiday_0 rfl (lv_at hl 1 rfl) ?_
  refine lv_if_lt (tgt := 9) hx hb dX4_holiday_1 (by decide) (fun c1 => ?_) (fun c1 => ?_)
  · have hcd : cdHol h0 h1 town d = 1 := by unfold cdHol; rw [if_neg (by simp [inB, Int32.not_le.mpr c1])]
    exact tS (is := 32) (text := "no such town") hx hb hml hlk hxt hts hown hE0 hH hS txI (by decide) (by rw [hcd]; exact ⟨by decide, rfl⟩) hl.1 (Nat.le_of_ble_eq_true rfl) (Nat.le_of_ble_eq_true rfl) (by omega) (by omega) dX4_holiday_9 dX4_holiday_12 dX4_holiday_13 dX4_holiday_15 dX4_holiday_18
  · refine lv_iload_n hx hb dX4_holiday_4 rfl (lv_at hl 1 rfl) ?_
    refine lv_iconst (v := 2) hx hb dX4_holiday_5 (by decide) ?_
    refine lv_icmp_lt (tgt := 19) hx hb dX4_holiday_6 (by decide) (fun c2 => ?_) (fun c2 => ?_)
    · have g0 : inB town 0 1 = true := by simp [inB, Int32.not_lt.mp c1, i32_lt2.mp c2]
      refine lv_iload_n hx hb dX4_holiday_19 rfl (lv_at hl 2 rfl) ?_
      refine lv_iconst (v := 0) hx hb dX4_holiday_20 (by decide) ?_
      refine lv_sipush (v := 3000) hx hb dX4_holiday_21 (by decide) ?_
      refine xSc hx hb hml hlk hxt hts hown hB hE hH hS kwX4_37 (c_crange E d 0 3000 H) (fun X h => by have e9 : cdHol h0 h1 town d = 2 := (by unfold cdHol; rw [g0, h.2]; rfl); rw [e9]; exact ⟨by decide, h.1⟩) (Nat.le_of_ble_eq_true rfl) rfl hl.1 rfl (Nat.le_of_ble_eq_true rfl) (by omega) (by omega) dX4_holiday_24 (fun v1 H1 L1 ho1 hz1 hE hS => ?_)
      obtain ⟨g1, hv1, hh1⟩ := ho1
      subst hv1
      have hh1 := hh1.symm
      subst hh1
      dsimp only [Option.toList, List.nil_append, List.cons_append]
      obtain ⟨d0, d1, hq0, hd0, hd1, hoq, hgq⟩ := hX2.2.1
      rcases inB01 g0 with e0 | e0
      · subst e0
        have i0 : (if (0 : Int32) = 0 then h0 else h1) = h0 := if_pos rfl
        have i1 : (if (0 : Int32) = 0 then h0 ++ [(d, 0)] else h0) = h0 ++ [(d, 0)] := if_pos rfl
        have i2 : (if (0 : Int32) = 0 then h1 else h1 ++ [(d, 0)]) = h1 := if_pos rfl
        refine lv_aload_n hx hb dX4_holiday_27 rfl (lv_at hl 0 rfl) ?_
        refine gf hx hb hts hown hE lkX4_10 hO rfl dX4_holiday_28 ?_
        refine lv_iload_n hx hb dX4_holiday_31 rfl (lv_at hl 1 rfl) ?_
        refine pV hx hb hml hts hown hE kwX4_41 (c_hof0 E q d0 d1 H hq0) hq0 rfl (Nat.le_of_ble_eq_true rfl) rfl hl.1 rfl (Nat.le_of_ble_eq_true rfl) (by omega) (by omega) dX4_holiday_32 ?_
        obtain ⟨a9, ad9, hD8, -⟩ := hd0.DRx (by omega)
        have hD0 := hD8.1
        refine lv_astore_n (lv' := [(3, .ref d0), (0, .ref x), (1, .int 0), (2, .int d)]) hx hb dX4_holiday_35 rfl hl (by decide) rfl (fun ls hl => ?_)
        refine lv_aload_n hx hb dX4_holiday_36 rfl (lv_at hl 0 rfl) ?_
        refine pV hx hb hml hts hown hE kwX4_45 (c_count E d0 a9 ad9 h0 H hD8) hD0 rfl (Nat.le_of_ble_eq_true rfl) rfl hl.1 rfl (Nat.le_of_ble_eq_true rfl) (by omega) (by omega) dX4_holiday_37 ?_
        refine lv_bipush (v := 20) hx hb dX4_holiday_40 (by decide) ?_
        refine lv_icmp_ge (tgt := 53) hx hb dX4_holiday_42 (by decide) (fun c3 => ?_) (fun c3 => ?_)
        · have c4 : 20 ≤ h0.length := by
            rcases Nat.lt_or_ge h0.length 20 with q9 | q9
            · exact absurd c3 (nI_ge (a := h0.length) (b := 20) q9 (by decide))
            · exact q9
          have hcd : cdHol h0 h1 0 d = 3 := by unfold cdHol; rw [g0, g1, if_pos rfl, if_pos rfl, i0]; simp [c4]
          exact tS (is := 55) (text := "the town has this holiday, or no room for it") hx hb hml hlk hxt hts hown hE0 hH hS txS (by decide) (by rw [hcd]; exact ⟨by decide, rfl⟩) hl.1 (Nat.le_of_ble_eq_true rfl) (Nat.le_of_ble_eq_true rfl) (by omega) (by omega) dX4_holiday_53 dX4_holiday_56 dX4_holiday_57 dX4_holiday_59 dX4_holiday_62
        · have c4 : h0.length < 20 := by
            rcases Nat.lt_or_ge h0.length 20 with q9 | q9
            · exact q9
            · exact absurd (nI_le (a := 20) (b := h0.length) q9 (by omega)) c3
          refine lv_aload_n hx hb dX4_holiday_45 rfl (lv_at hl 0 rfl) ?_
          refine lv_iload_n hx hb dX4_holiday_46 rfl (lv_at hl 3 rfl) ?_
          refine pV hx hb hml hts hown hE kwX4_49 (c_has E d0 a9 ad9 h0 d H hD8) hD0 rfl (Nat.le_of_ble_eq_true rfl) rfl hl.1 rfl (Nat.le_of_ble_eq_true rfl) (by omega) (by omega) dX4_holiday_47 ?_
          cases c5 : dHas h0 d with
          | true =>
            refine lv_if_eq (tgt := 63) hx hb dX4_holiday_50 (by decide) (fun c6 => ?_) (fun c6 => ?_)
            · exact absurd c6 (by decide)
            have hcd : cdHol h0 h1 0 d = 3 := by unfold cdHol; rw [g0, g1, if_pos rfl, if_pos rfl, i0]; simp [c5]
            exact tS (is := 55) (text := "the town has this holiday, or no room for it") hx hb hml hlk hxt hts hown hE0 hH hS txS (by decide) (by rw [hcd]; exact ⟨by decide, rfl⟩) hl.1 (Nat.le_of_ble_eq_true rfl) (Nat.le_of_ble_eq_true rfl) (by omega) (by omega) dX4_holiday_53 dX4_holiday_56 dX4_holiday_57 dX4_holiday_59 dX4_holiday_62
          | false =>
            refine lv_if_eq (tgt := 63) hx hb dX4_holiday_50 (by decide) (fun c6 => ?_) (fun c6 => ?_)
            rotate_left
            · exact absurd (by decide) c6
            have hcd : cdHol h0 h1 0 d = 0 := by unfold cdHol; rw [g0, g1, if_pos rfl, if_pos rfl, i0]; simp [Nat.not_le.mpr c4, c5]
            refine lv_aload_n hx hb dX4_holiday_63 rfl (lv_at hl 0 rfl) ?_
            refine lv_iload_n hx hb dX4_holiday_64 rfl (lv_at hl 3 rfl) ?_
            refine lv_iload_n hx hb dX4_holiday_65 rfl (lv_at hl 2 rfl) ?_
            refine gVU hx hb hml hts hown hB hE hS kwX4_58 (c_dadd E ow 2 d0 h0 d 0 H hd0 (by omega)) hD0 rfl (Nat.le_of_ble_eq_true rfl) rfl hl.1 rfl (Nat.le_of_ble_eq_true rfl) (by omega) (by omega) dX4_holiday_66 (fun H2 L2 hG hz2 hE hS => ?_)
            obtain ⟨ow1, e1, e2, hDn, hFn⟩ := hG
            have low1 := hS.low hH hB
            have hCn := CRo.a0 hq0 hd1 hDn hoq hgq low1 hBF e1 hFn
            have hXg := hX2.hol (L := 2) (by decide) hCn low1 hBF e1 hFn
            have hO := hXg.1
            refine lv_aload_n hx hb dX4_holiday_69 rfl (lv_at hl 1 rfl) ?_
            refine gVU hx hb hml hts hown hB hE hS kwX4_62 (c_xrollall E ow1 x q fd bk wa h0 h1 (h0 ++ [(d, 0)]) h1 fx ts H2 hXg (by rw [List.length_append]; show _ + 1 ≤ _; omega) v1 hV.tn hV.2.2.2.2.2.2.2.2) hO rfl (Nat.le_of_ble_eq_true rfl) rfl hl.1 rfl (Nat.le_of_ble_eq_true rfl) (by omega) (by omega) dX4_holiday_70 (fun H3 L3 hG hz3 hE hS => ?_)
            obtain ⟨hXn, hF2, hz8⟩ := hG
            obtain ⟨d2, d3, hq2, hd2, hd3, -⟩ := id hXn.2.1
            have hD5 : DRo E ow1 2 d0 (h0 ++ [(d, 0)]) H3 := hDn.kept ((fun z hz => (hS.low hH hB z hz).trans (low1 z hz).symm)) hBF (fun z h9 h8 => hF2.2 z h9 (by show ¬ 10 ≤ (ow1 z).1; omega)) (fun _ _ => rfl)
            obtain ⟨a7, ad7, hD7, -⟩ := hD5.DRx (by rw [List.length_append]; show _ + 1 < _; omega)
            have hD6 := hD7.1
            refine lv_aload_n hx hb dX4_holiday_73 rfl (lv_at hl 0 rfl) ?_
            refine pV hx hb hml hts hown hE kwX4_45 (c_count E d0 a7 ad7 (h0 ++ [(d, 0)]) H3 hD7) hD6 rfl (Nat.le_of_ble_eq_true rfl) rfl hl.1 rfl (Nat.le_of_ble_eq_true rfl) (by omega) (by omega) dX4_holiday_74 ?_
            exact vx_ret (cI hx hb hr hlk hB hS (by omega) (by omega) (⟨⟨hcd, by rw [i0, List.length_append]; rfl⟩, by rw [i1, i2]; exact ⟨ow1, e1, fun z h9 => by rw [e2 z h9]; decide, hXn.R, hFn.lab4 e1 e2 hF2⟩⟩) dX4_holiday_77)
      · subst e0
        have i0 : (if (1 : Int32) = 0 then h0 else h1) = h1 := if_neg (by decide)
        have i1 : (if (1 : Int32) = 0 then h0 ++ [(d, 1)] else h0) = h0 := if_neg (by decide)
        have i2 : (if (1 : Int32) = 0 then h1 else h1 ++ [(d, 1)]) = h1 ++ [(d, 1)] := if_neg (by decide)
        refine lv_aload_n hx hb dX4_holiday_27 rfl (lv_at hl 0 rfl) ?_
        refine gf hx hb hts hown hE lkX4_10 hO rfl dX4_holiday_28 ?_
        refine lv_iload_n hx hb dX4_holiday_31 rfl (lv_at hl 1 rfl) ?_
        refine pV hx hb hml hts hown hE kwX4_41 (c_hof1 E q d0 d1 H hq0) hq0 rfl (Nat.le_of_ble_eq_true rfl) rfl hl.1 rfl (Nat.le_of_ble_eq_true rfl) (by omega) (by omega) dX4_holiday_32 ?_
        obtain ⟨a9, ad9, hD8, -⟩ := hd1.DRx (by omega)
        have hD0 := hD8.1
        refine lv_astore_n (lv' := [(3, .ref d1), (0, .ref x), (1, .int 1), (2, .int d)]) hx hb dX4_holiday_35 rfl hl (by decide) rfl (fun ls hl => ?_)
        refine lv_aload_n hx hb dX4_holiday_36 rfl (lv_at hl 0 rfl) ?_
        refine pV hx hb hml hts hown hE kwX4_45 (c_count E d1 a9 ad9 h1 H hD8) hD0 rfl (Nat.le_of_ble_eq_true rfl) rfl hl.1 rfl (Nat.le_of_ble_eq_true rfl) (by omega) (by omega) dX4_holiday_37 ?_
        refine lv_bipush (v := 20) hx hb dX4_holiday_40 (by decide) ?_
        refine lv_icmp_ge (tgt := 53) hx hb dX4_holiday_42 (by decide) (fun c3 => ?_) (fun c3 => ?_)
        · have c4 : 20 ≤ h1.length := by
            rcases Nat.lt_or_ge h1.length 20 with q9 | q9
            · exact absurd c3 (nI_ge (a := h1.length) (b := 20) q9 (by decide))
            · exact q9
          have hcd : cdHol h0 h1 1 d = 3 := by unfold cdHol; rw [g0, g1, if_pos rfl, if_pos rfl, i0]; simp [c4]
          exact tS (is := 55) (text := "the town has this holiday, or no room for it") hx hb hml hlk hxt hts hown hE0 hH hS txS (by decide) (by rw [hcd]; exact ⟨by decide, rfl⟩) hl.1 (Nat.le_of_ble_eq_true rfl) (Nat.le_of_ble_eq_true rfl) (by omega) (by omega) dX4_holiday_53 dX4_holiday_56 dX4_holiday_57 dX4_holiday_59 dX4_holiday_62
        · have c4 : h1.length < 20 := by
            rcases Nat.lt_or_ge h1.length 20 with q9 | q9
            · exact q9
            · exact absurd (nI_le (a := 20) (b := h1.length) q9 (by omega)) c3
          refine lv_aload_n hx hb dX4_holiday_45 rfl (lv_at hl 0 rfl) ?_
          refine lv_iload_n hx hb dX4_holiday_46 rfl (lv_at hl 3 rfl) ?_
          refine pV hx hb hml hts hown hE kwX4_49 (c_has E d1 a9 ad9 h1 d H hD8) hD0 rfl (Nat.le_of_ble_eq_true rfl) rfl hl.1 rfl (Nat.le_of_ble_eq_true rfl) (by omega) (by omega) dX4_holiday_47 ?_
          cases c5 : dHas h1 d with
          | true =>
            refine lv_if_eq (tgt := 63) hx hb dX4_holiday_50 (by decide) (fun c6 => ?_) (fun c6 => ?_)
            · exact absurd c6 (by decide)
            have hcd : cdHol h0 h1 1 d = 3 := by unfold cdHol; rw [g0, g1, if_pos rfl, if_pos rfl, i0]; simp [c5]
            exact tS (is := 55) (text := "the town has this holiday, or no room for it") hx hb hml hlk hxt hts hown hE0 hH hS txS (by decide) (by rw [hcd]; exact ⟨by decide, rfl⟩) hl.1 (Nat.le_of_ble_eq_true rfl) (Nat.le_of_ble_eq_true rfl) (by omega) (by omega) dX4_holiday_53 dX4_holiday_56 dX4_holiday_57 dX4_holiday_59 dX4_holiday_62
          | false =>
            refine lv_if_eq (tgt := 63) hx hb dX4_holiday_50 (by decide) (fun c6 => ?_) (fun c6 => ?_)
            rotate_left
            · exact absurd (by decide) c6
            have hcd : cdHol h0 h1 1 d = 0 := by unfold cdHol; rw [g0, g1, if_pos rfl, if_pos rfl, i0]; simp [Nat.not_le.mpr c4, c5]
            refine lv_aload_n hx hb dX4_holiday_63 rfl (lv_at hl 0 rfl) ?_
            refine lv_iload_n hx hb dX4_holiday_64 rfl (lv_at hl 3 rfl) ?_
            refine lv_iload_n hx hb dX4_holiday_65 rfl (lv_at hl 2 rfl) ?_
            refine gVU hx hb hml hts hown hB hE hS kwX4_58 (c_dadd E ow 3 d1 h1 d 1 H hd1 (by omega)) hD0 rfl (Nat.le_of_ble_eq_true rfl) rfl hl.1 rfl (Nat.le_of_ble_eq_true rfl) (by omega) (by omega) dX4_holiday_66 (fun H2 L2 hG hz2 hE hS => ?_)
            obtain ⟨ow1, e1, e2, hDn, hFn⟩ := hG
            have low1 := hS.low hH hB
            have hCn := CRo.a1 hq0 hd0 hDn hoq hgq low1 hBF e1 hFn
            have hXg := hX2.hol (L := 3) (by decide) hCn low1 hBF e1 hFn
            have hO := hXg.1
            refine lv_aload_n hx hb dX4_holiday_69 rfl (lv_at hl 1 rfl) ?_
            refine gVU hx hb hml hts hown hB hE hS kwX4_62 (c_xrollall E ow1 x q fd bk wa h0 h1 h0 (h1 ++ [(d, 1)]) fx ts H2 hXg v0 (by rw [List.length_append]; show _ + 1 ≤ _; omega) hV.tn hV.2.2.2.2.2.2.2.2) hO rfl (Nat.le_of_ble_eq_true rfl) rfl hl.1 rfl (Nat.le_of_ble_eq_true rfl) (by omega) (by omega) dX4_holiday_70 (fun H3 L3 hG hz3 hE hS => ?_)
            obtain ⟨hXn, hF2, hz8⟩ := hG
            obtain ⟨d2, d3, hq2, hd2, hd3, -⟩ := id hXn.2.1
            have hD5 : DRo E ow1 3 d1 (h1 ++ [(d, 1)]) H3 := hDn.kept ((fun z hz => (hS.low hH hB z hz).trans (low1 z hz).symm)) hBF (fun z h9 h8 => hF2.2 z h9 (by show ¬ 10 ≤ (ow1 z).1; omega)) (fun _ _ => rfl)
            obtain ⟨a7, ad7, hD7, -⟩ := hD5.DRx (by rw [List.length_append]; show _ + 1 < _; omega)
            have hD6 := hD7.1
            refine lv_aload_n hx hb dX4_holiday_73 rfl (lv_at hl 0 rfl) ?_
            refine pV hx hb hml hts hown hE kwX4_45 (c_count E d1 a7 ad7 (h1 ++ [(d, 1)]) H3 hD7) hD6 rfl (Nat.le_of_ble_eq_true rfl) rfl hl.1 rfl (Nat.le_of_ble_eq_true rfl) (by omega) (by omega) dX4_holiday_74 ?_
            exact vx_ret (cI hx hb hr hlk hB hS (by omega) (by omega) (⟨⟨hcd, by rw [i0, List.length_append]; rfl⟩, by rw [i1, i2]; exact ⟨ow1, e1, fun z h9 => by rw [e2 z h9]; decide, hXn.R, hFn.lab4 e1 e2 hF2⟩⟩) dX4_holiday_77)
    · have hcd : cdHol h0 h1 town d = 1 := by unfold cdHol; rw [if_neg (by have c9 : ¬ town ≤ 1 := fun q => c2 (i32_lt2.mpr q); simp [inB, c9])]
      exact tS (is := 32) (text := "no such town") hx hb hml hlk hxt hts hown hE0 hH hS txI (by decide) (by rw [hcd]; exact ⟨by decide, rfl⟩) hl.1 (Nat.le_of_ble_eq_true rfl) (Nat.le_of_ble_eq_true rfl) (by omega) (by omega) dX4_holiday_9 dX4_holiday_12 dX4_holiday_13 dX4_holiday_15 dX4_holiday_18
