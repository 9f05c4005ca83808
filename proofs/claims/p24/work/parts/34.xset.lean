/-- the office with its places -/
def XRx (E : ET) (ow : Nat → Nat × Nat) (x q fd bk : Nat) (wa : Nat → Nat) (h0 h1 fx : Dy) (ts : List TR) (H : Heap) : Prop := OB E 5 [.ref q, .ref fd, .ref bk] x H ∧ CRo E ow q h0 h1 H ∧ DRo E ow 1 fd fx H ∧ LRo E ow 5 bk ts.length wa H ∧ (∀ t tr, ts[t]? = some tr → SRo E ow (10 + 3 * t) (wa t) tr (bfC h0 h1 tr.1) H) ∧ ow x = (0, 0) ∧ eB E ≤ x
theorem XR.x {E : ET} {ow : Nat → Nat × Nat} {x : Nat} {h0 h1 fx : Dy} {ts : List TR} {H : Heap} (h : XR E ow x h0 h1 fx ts H) : ∃ q fd bk wa, XRx E ow x q fd bk wa h0 h1 fx ts H := h
theorem XRx.R {E : ET} {ow : Nat → Nat × Nat} {x q fd bk : Nat} {wa : Nat → Nat} {h0 h1 fx : Dy} {ts : List TR} {H : Heap} (h : XRx E ow x q fd bk wa h0 h1 fx ts H) : XR E ow x h0 h1 fx ts H := ⟨q, fd, bk, wa, h⟩
theorem XRx.rd {E : ET} {ow : Nat → Nat × Nat} {x q fd bk : Nat} {wa : Nat → Nat} {h0 h1 fx : Dy} {ts : List TR} {H : Heap} (h : XRx E ow x q fd bk wa h0 h1 fx ts H) (hV : SV h0 h1 fx ts) (hK : BL ts) : CR E q h0 h1 H ∧ DR E fd fx H ∧ LR E bk ts.length wa H ∧ (∀ t tr, ts[t]? = some tr → ∃ db dh bd, SRx E (wa t) tr.1 db dh bd (bfC h0 h1 tr.1) tr.2.1 tr.2.2 H) := by
  obtain ⟨h1, h2, h3, h4, h5, h6, h7⟩ := h
  have v1 := hV.1
  have v2 := hV.2.1
  have v6 := hV.2.2.2.2.2.1
  have v8 := hV.tn
  refine ⟨h2.CR v1 v2, h3.DR (by omega), h4.LR (by omega), fun t tr ht => (h5 t tr ht).SRx (hK tr (List.mem_of_getElem? ht)) ?_⟩
  obtain ⟨pa, lo, f, le, n, -, -, -, -, -, -, -, -, -, -, -, -, -, -, -, -, -, hh⟩ := hV.tv ht
  omega
/-- one swap is changed -/
theorem XRx.swp {E : ET} {ow ow' : Nat → Nat × Nat} {x q fd bk t : Nat} {wa : Nat → Nat} {h0 h1 fx : Dy} {ts : List TR} {tr tr' : TR} {H H' : Heap} (h : XRx E ow x q fd bk wa h0 h1 fx ts H) (ht : ts[t]? = some tr) (hS : SRo E ow' (10 + 3 * t) (wa t) tr' (bfC h0 h1 tr'.1) H') (hF : ∀ q, q < H.size → ¬ (10 + 3 * t ≤ (ow q).1 ∧ (ow q).1 ≤ 10 + 3 * t + 2) → H'[q]? = H[q]?) (low : ∀ q, q < eB E → H'[q]? = H[q]?) (hBF : eF E < eB E) (hw : ∀ q, q < H.size → ow' q = ow q) : XRx E ow' x q fd bk wa h0 h1 fx (ts.set t tr') H' := by
  obtain ⟨hO, hC, hD, hL, hT, hx, hg⟩ := h
  have hlt : t < ts.length := (List.getElem?_eq_some_iff.mp ht).1
  refine ⟨pk1 hO (hF x (plt hO) (by rw [hx]; show ¬ (10 + 3 * t ≤ 0 ∧ _); omega)), hC.kept low hBF (fun z h9 h8 => hF z h9 (by omega)) hw, hD.kept low hBF (fun z h9 h8 => hF z h9 (by omega)) hw, by rw [List.length_set]; exact hL.kept low hBF (fun z h9 h8 => hF z h9 (by rcases h8 with e | e <;> (rw [e]; show ¬ (10 + 3 * t ≤ 5 ∧ _); omega))) hw, fun u ur hu => ?_, by rw [hw x (plt hO)]; exact hx, hg⟩
  by_cases c : u = t
  · subst c
    rw [List.getElem?_set_self hlt] at hu
    cases hu
    exact hS
  · rw [List.getElem?_set_ne (fun e => c e.symm)] at hu
    exact (hT u ur hu).kept low hBF (fun z h9 h8 => hF z h9 (by omega)) hw
theorem SRo.brk {E : ET} {ow : Nat → Nat × Nat} {L w db dh bd : Nat} {tr : TR} {bs : Dy} {bf : Nat → Int32} {H H' : Heap} (hO : OB E 4 (tfs tr.1 db dh bd) w H) (hdh : DRo E ow (L + 2) dh tr.2.2 H) (hbd : IA E 11 bf bd H) (how : ow w = (L, 0)) (hob : ow bd = (L, 1)) (g1 : eB E ≤ w) (g2 : eB E ≤ bd) (low : ∀ q, q < eB E → H'[q]? = H[q]?) (hBF : eF E < eB E) (hG : DOut E ow (L + 1) db bs H H') : ∃ ow' : Nat → Nat × Nat, (∀ q, q < H.size → ow' q = ow q) ∧ (∀ q, H.size ≤ q → (ow' q).1 = L + 1) ∧ SRo E ow' L w (tr.1, bs, tr.2.2) bf H' ∧ FR (fun q => (ow q).1 = L + 1) H H' := by
  obtain ⟨ow', e1, e2, hD, hF⟩ := hG
  have hN : ∀ z, z < H.size → (ow z).1 ≠ L + 1 → H'[z]? = H[z]? := hF.2
  exact ⟨ow', e1, e2, ⟨db, dh, bd, pk1 hO (hN w (plt hO) (by rw [how]; show L ≠ L + 1; omega)), hD, hdh.kept low hBF (fun z h9 h8 => hN z h9 (by omega)) e1, pk1 hbd (hN bd (plt hbd) (by rw [hob]; show L ≠ L + 1; omega)), by rw [e1 w (plt hO)]; exact how, by rw [e1 bd (plt hbd)]; exact hob, g1, g2⟩, hF⟩
theorem SRo.hnd {E : ET} {ow : Nat → Nat × Nat} {L w db dh bd : Nat} {tr : TR} {hs : Dy} {bf : Nat → Int32} {H H' : Heap} (hO : OB E 4 (tfs tr.1 db dh bd) w H) (hdb : DRo E ow (L + 1) db tr.2.1 H) (hbd : IA E 11 bf bd H) (how : ow w = (L, 0)) (hob : ow bd = (L, 1)) (g1 : eB E ≤ w) (g2 : eB E ≤ bd) (low : ∀ q, q < eB E → H'[q]? = H[q]?) (hBF : eF E < eB E) (hG : DOut E ow (L + 2) dh hs H H') : ∃ ow' : Nat → Nat × Nat, (∀ q, q < H.size → ow' q = ow q) ∧ (∀ q, H.size ≤ q → (ow' q).1 = L + 2) ∧ SRo E ow' L w (tr.1, tr.2.1, hs) bf H' ∧ FR (fun q => (ow q).1 = L + 2) H H' := by
  obtain ⟨ow', e1, e2, hD, hF⟩ := hG
  have hN : ∀ z, z < H.size → (ow z).1 ≠ L + 2 → H'[z]? = H[z]? := hF.2
  exact ⟨ow', e1, e2, ⟨db, dh, bd, pk1 hO (hN w (plt hO) (by rw [how]; show L ≠ L + 2; omega)), hdb.kept low hBF (fun z h9 h8 => hN z h9 (by omega)) e1, hD, pk1 hbd (hN bd (plt hbd) (by rw [hob]; show L ≠ L + 2; omega)), by rw [e1 w (plt hO)]; exact how, by rw [e1 bd (plt hbd)]; exact hob, g1, g2⟩, hF⟩
/-- what a writer of the fixings says of the office -/
theorem XRx.fix {E : ET} {ow : Nat → Nat × Nat} {x q fd bk : Nat} {wa : Nat → Nat} {h0 h1 fx gx : Dy} {ts : List TR} {H H' : Heap} (h : XRx E ow x q fd bk wa h0 h1 fx ts H) (low : ∀ q, q < eB E → H'[q]? = H[q]?) (hBF : eF E < eB E) (hG : DOut E ow 1 fd gx H H') : XOut E ow x h0 h1 gx ts H H' ∧ ∃ ow', DRo E ow' 1 fd gx H' := by
  obtain ⟨ow', e1, e2, hD', hF⟩ := hG
  obtain ⟨hO, hC, hD, hL, hT, hx, hg⟩ := h
  have hN : ∀ z, z < H.size → (ow z).1 ≠ 1 → H'[z]? = H[z]? := hF.2
  refine ⟨⟨ow', e1, fun z hz => by rw [e2 z hz]; decide, ⟨q, fd, bk, wa, pk1 hO (hN x (plt hO) (by rw [hx]; decide)), hC.kept low hBF (fun z h9 h8 => hN z h9 (by omega)) e1, hD', hL.kept low hBF (fun z h9 h8 => hN z h9 (by rcases h8 with e | e <;> (rw [e]; decide))) e1, fun t tr ht => (hT t tr ht).kept low hBF (fun z h9 h8 => hN z h9 (by omega)) e1, by rw [e1 x (plt hO)]; exact hx, hg⟩, ⟨hF.1, fun z h9 h8 => hN z h9 (fun e => h8 (by show (ow z).1 ≠ 4; rw [e]; decide))⟩⟩, ow', hD'⟩
theorem XRx.out {E : ET} {ow ow' : Nat → Nat × Nat} {x q fd bk t : Nat} {wa : Nat → Nat} {h0 h1 fx : Dy} {ts : List TR} {H H' : Heap} (h : XRx E ow' x q fd bk wa h0 h1 fx ts H') (e1 : ∀ q, q < H.size → ow' q = ow q) (e2 : ∀ q, H.size ≤ q → (ow' q).1 ≠ 4) (hz : H.size ≤ H'.size) (hF : ∀ q, q < H.size → ¬ (10 + 3 * t ≤ (ow q).1 ∧ (ow q).1 ≤ 10 + 3 * t + 2) → H'[q]? = H[q]?) : XOut E ow x h0 h1 fx ts H H' :=
  ⟨ow', e1, e2, h.R, ⟨hz, fun z h9 h8 => hF z h9 (fun e => h8 (by show (ow z).1 ≠ 4; omega))⟩⟩
theorem va_S.low {E : ET} {s : State} {H H1 : Heap} {L : List Loc} (hS : va_S (fr E) s.heap H1 L) (hH : s.heap = H) (hB : eB E ≤ s.heap.size) : ∀ q, q < eB E → H1[q]? = H[q]? := fun z hz => by
  rw [← hH]
  exact hS.2.1 z (Nat.lt_of_lt_of_le hz hB) (Nat.not_le.mpr hz)
def cdFix (fx : Dy) (d r : Int32) : Nat := if inB d 0 3000 && inB r (-500) 2000 then (if decide (60 ≤ fx.length) && !dHas fx d then 2 else 0) else 1
def xnF : Nat → String
  | 1 => xA
  | _ => xS
def cdSet (ts : List TR) (t sp dc co : Int32) : Nat := match trd ts t with
  | none => 1
  | some tr => if inB sp (-500) 500 && (inB dc 0 1 && inB co 0 2) then (if 0 < tr.2.1.length then 3 else 0) else 2
def cdBrk (ts : List TR) (t d lo : Int32) : Nat := match trd ts t with
  | none => 1
  | some tr => if inB d 0 3000 && inB lo 1 1000 then (if rstS tr.1 tr.2.1 < lo then 3 else 0) else 2
def cdHnd (ts : List TR) (t d pa : Int32) : Nat := match trd ts t with
  | none => 1
  | some tr => if inB pa 0 3 then (if inB d 0 3000 then (if 10 ≤ tr.2.2.length then 3 else 0) else 2) else 1
def setT (T : Nat → Int32) (sp dc co : Int32) : Nat → Int32 := fun k => if k = 7 then sp else if k = 8 then dc else if k = 9 then co else T k
theorem bfC_set (h0 h1 : Dy) (T : Nat → Int32) (sp dc co : Int32) : bfC h0 h1 (setT T sp dc co) = bfC h0 h1 T := rfl
theorem dPut_len {es : Dy} {d v : Int32} : (dPut es d v).length = if dHas es d then es.length else es.length + 1 := by
  unfold dPut dHas
  cases ixL d 0 es with
  | none => simp
  | some j => simp
theorem LRo.same {E : ET} {ow ow' : Nat → Nat × Nat} {L a c : Nat} {ad : Nat → Nat} {H : Heap} (h : LRo E ow L a c ad H) (hw : ∀ q, q < H.size → ow' q = ow q) : LRo E ow' L a c ad H := by
  obtain ⟨mo, arr, n, f, hO, hA, h1, h2, h3, h4, h5, h6⟩ := h
  exact ⟨mo, arr, n, f, hO, hA, h1, h2, h3, by rw [hw a (plt hO)]; exact h4, h5, h6.imp id (fun g => ⟨by rw [hw arr hA.lt]; exact g.1, g.2⟩)⟩
theorem DRo.same {E : ET} {ow ow' : Nat → Nat × Nat} {L d : Nat} {es : Dy} {H : Heap} (h : DRo E ow L d es H) (hw : ∀ q, q < H.size → ow' q = ow q) : DRo E ow' L d es H := by
  obtain ⟨a, ad, hO, hL, hEs, h1, h2⟩ := h
  exact ⟨a, ad, hO, hL.same hw, fun i x hx => ⟨(hEs i x hx).1, by rw [hw _ (plt (hEs i x hx).1)]; exact (hEs i x hx).2.1, (hEs i x hx).2.2⟩, by rw [hw d (plt hO)]; exact h1, h2⟩
theorem XR.lab {E : ET} {ow : Nat → Nat × Nat} {x : Nat} {y : Nat × Nat} {h0 h1 fx : Dy} {ts : List TR} {H H1 : Heap} (h : XR E ow x h0 h1 fx ts H1) (_hz : H.size ≤ H1.size) (hz : H1.size ≤ H.size) : XR E (owx ow H y) x h0 h1 fx ts H1 := by
  have hw : ∀ q, q < H1.size → owx ow H y q = ow q := fun q hq => owx_old (by omega)
  obtain ⟨q, fd, bk, wa, hO, ⟨d0, d1, c1, c2, c3, c4, c5⟩, hD, hL, hT, hx, hg⟩ := h
  have K : ∀ {L d : Nat} {es : Dy}, DRo E ow L d es H1 → DRo E (owx ow H y) L d es H1 := fun hd => hd.same hw
  refine ⟨q, fd, bk, wa, hO, ⟨d0, d1, c1, K c2, K c3, by rw [hw q (plt c1)]; exact c4, c5⟩, K hD, hL.same hw, fun t tr ht => ?_, by rw [hw x (plt hO)]; exact hx, hg⟩
  obtain ⟨db, dh, bd, s1, s2, s3, s4, s5, s6, s7, s8⟩ := hT t tr ht
  exact ⟨db, dh, bd, s1, K s2, K s3, s4, by rw [hw _ (plt s1)]; exact s5, by rw [hw _ (plt s4)]; exact s6, s7, s8⟩
set_option maxRecDepth 100000 in
set_option maxHeartbeats 4000000 in
/-- fix -/
theorem c_xfix (E : ET) (ow : Nat → Nat × Nat) (x : Nat) (h0 h1 fx : Dy) (ts : List TR) (d r : Int32) (H : Heap) (hX : XR E ow x h0 h1 fx ts H) (hV : SV h0 h1 fx ts) (hK : BL ts)  : XCon E yX4_fix cX4_fix 3 (some FieldType.int) 10 4 (30 + 2 * fx.length) [.ref x, .int d, .int r] H (fun v H' => (cdFix fx d r = 0 ∧ v = some (.int (nI (dPut fx d r).length))) ∧ XOut E ow x h0 h1 (dPut fx d r) ts H H') (fun X => cdFix fx d r ≠ 0 ∧ X = xnF (cdFix fx d r)) := by
  refine XCon.of (C := RX4) rfl (by decide +kernel) (Nat.le_of_ble_eq_true rfl) ?_
  intro p e s m below meth co ls hx hb hr hlk hml hown hts hxt hE hH hS hl
  have hl : lv_has ls 3 [(0, .ref x), (1, .int d), (2, .int r)] := hl
  have hB : eB E ≤ s.heap.size := by rw [hH]; exact hE.2.1
  have hE0 : EV E s s.heap := by rw [hH]; exact hE
  obtain ⟨q, fd, bk, wa, hX2⟩ := hX.x
  obtain ⟨hC, hD, hL, hT⟩ := hX2.rd hV hK
  have hO := hX2.1
  have hBF := hE.2.2.1
  have hfl := hV.2.2.2.2.2.1
  refine lv_iload_n hx hb dX4_fix_0 rfl (lv_at hl 1 rfl) ?_
  refine lv_iconst (v := 0) hx hb dX4_fix_1 (by decide) ?_
  refine lv_sipush (v := 3000) hx hb dX4_fix_2 (by decide) ?_
  refine xSc hx hb hml hlk hxt hts hown hB hE hH hS kwX4_37 (c_crange E d 0 3000 H) (fun X h => by have e9 : cdFix fx d r = 1 := (by unfold cdFix; rw [h.2]; rfl); rw [e9]; exact ⟨by decide, h.1⟩) (Nat.le_of_ble_eq_true rfl) rfl hl.1 rfl (Nat.le_of_ble_eq_true rfl) (by omega) (by omega) dX4_fix_5 (fun v1 H1 L1 ho1 hz1 hE hS => ?_)
  obtain ⟨g1, hv1, hh1⟩ := ho1
  subst hv1
  have hh1 := hh1.symm
  subst hh1
  dsimp only [Option.toList, List.nil_append, List.cons_append]
  refine lv_iload_n hx hb dX4_fix_8 rfl (lv_at hl 2 rfl) ?_
  refine lv_sipush (v := (-500)) hx hb dX4_fix_9 (by decide) ?_
  refine lv_sipush (v := 2000) hx hb dX4_fix_12 (by decide) ?_
  refine xSc hx hb hml hlk hxt hts hown hB hE hH hS kwX4_37 (c_crange E r (-500) 2000 H) (fun X h => by have e9 : cdFix fx d r = 1 := (by unfold cdFix; rw [g1, h.2]; rfl); rw [e9]; exact ⟨by decide, h.1⟩) (Nat.le_of_ble_eq_true rfl) rfl hl.1 rfl (Nat.le_of_ble_eq_true rfl) (by omega) (by omega) dX4_fix_15 (fun v2 H2 L2 ho2 hz2 hE hS => ?_)
  obtain ⟨g2, hv2, hh2⟩ := ho2
  subst hv2
  have hh2 := hh2.symm
  subst hh2
  dsimp only [Option.toList, List.nil_append, List.cons_append]
  obtain ⟨a9, ad9, hD9⟩ := hD
  have hD0 := hD9.1
  refine lv_aload_n hx hb dX4_fix_18 rfl (lv_at hl 0 rfl) ?_
  refine gf hx hb hts hown hE lkX4_19 hO rfl dX4_fix_19 ?_
  refine pV hx hb hml hts hown hE kwX4_45 (c_count E fd a9 ad9 fx H hD9) hD0 rfl (Nat.le_of_ble_eq_true rfl) rfl hl.1 rfl (Nat.le_of_ble_eq_true rfl) (by omega) (by omega) dX4_fix_22 ?_
  refine lv_bipush (v := 60) hx hb dX4_fix_25 (by decide) ?_
  refine lv_icmp_lt (tgt := 51) hx hb dX4_fix_27 (by decide) (fun c1 => ?_) (fun c1 => ?_)
  · have c2 : fx.length < 60 := by
      rcases Nat.lt_or_ge fx.length 60 with q9 | q9
      · exact q9
      · exact absurd c1 (nI_nlt (a := fx.length) (b := 60) q9 (by omega))
    have hcd : cdFix fx d r = 0 := by unfold cdFix; rw [g1, g2]; simp [Nat.not_le.mpr c2]
    refine lv_aload_n hx hb dX4_fix_51 rfl (lv_at hl 0 rfl) ?_
    refine gf hx hb hts hown hE lkX4_19 hO rfl dX4_fix_52 ?_
    refine lv_iload_n hx hb dX4_fix_55 rfl (lv_at hl 1 rfl) ?_
    refine lv_iload_n hx hb dX4_fix_56 rfl (lv_at hl 2 rfl) ?_
    refine gVU hx hb hml hts hown hB hE hS kwX4_74 (c_dput E ow 1 fd fx d r H hX2.2.2.1 (by omega)) hD0 rfl (Nat.le_of_ble_eq_true rfl) rfl hl.1 rfl (Nat.le_of_ble_eq_true rfl) (by omega) (by omega) dX4_fix_57 (fun H3 L3 hG hz3 hE hS => ?_)
    obtain ⟨hXo, ow9, hD8⟩ := hX2.fix (hS.low hH hB) hBF hG
    have hO9 := hX2.1
    have hN9 := hG
    obtain ⟨ow7, -, -, -, hF7⟩ := hN9
    have hO := hF7.at hO9 (by rw [hX2.2.2.2.2.2.1]; decide)
    have hlen : (dPut fx d r).length ≤ 61 := by rw [dPut_len]; split <;> omega
    obtain ⟨a8, ad8, hD8⟩ := hD8.DR (by omega)
    have hD7 := hD8.1
    refine lv_aload_n hx hb dX4_fix_60 rfl (lv_at hl 0 rfl) ?_
    refine gf hx hb hts hown hE lkX4_19 hO rfl dX4_fix_61 ?_
    refine pV hx hb hml hts hown hE kwX4_45 (c_count E fd a8 ad8 (dPut fx d r) H3 hD8) hD7 rfl (Nat.le_of_ble_eq_true rfl) rfl hl.1 rfl (Nat.le_of_ble_eq_true rfl) (by omega) (by omega) dX4_fix_64 ?_
    exact vx_ret (cI hx hb hr hlk hB hS (by omega) (by omega) (⟨⟨hcd, rfl⟩, hXo⟩) dX4_fix_67)
  · have c2 : 60 ≤ fx.length := by
      rcases Nat.lt_or_ge fx.length 60 with q9 | q9
      · exact absurd (nI_lt (a := fx.length) (b := 60) q9 (by decide)) c1
      · exact q9
    refine lv_aload_n hx hb dX4_fix_30 rfl (lv_at hl 0 rfl) ?_
    refine gf hx hb hts hown hE lkX4_19 hO rfl dX4_fix_31 ?_
    refine lv_iload_n hx hb dX4_fix_34 rfl (lv_at hl 1 rfl) ?_
    refine pV hx hb hml hts hown hE kwX4_49 (c_has E fd a9 ad9 fx d H hD9) hD0 rfl (Nat.le_of_ble_eq_true rfl) rfl hl.1 rfl (Nat.le_of_ble_eq_true rfl) (by omega) (by omega) dX4_fix_35 ?_
    cases c3 : dHas fx d with
    | true =>
      refine lv_if_ne (tgt := 51) hx hb dX4_fix_38 (by decide) (fun c4 => ?_) (fun c4 => ?_)
      rotate_left
      · exact absurd c4 (by decide)
      have hcd : cdFix fx d r = 0 := by unfold cdFix; rw [g1, g2]; simp [c3]
      refine lv_aload_n hx hb dX4_fix_51 rfl (lv_at hl 0 rfl) ?_
      refine gf hx hb hts hown hE lkX4_19 hO rfl dX4_fix_52 ?_
      refine lv_iload_n hx hb dX4_fix_55 rfl (lv_at hl 1 rfl) ?_
      refine lv_iload_n hx hb dX4_fix_56 rfl (lv_at hl 2 rfl) ?_
      refine gVU hx hb hml hts hown hB hE hS kwX4_74 (c_dput E ow 1 fd fx d r H hX2.2.2.1 (by omega)) hD0 rfl (Nat.le_of_ble_eq_true rfl) rfl hl.1 rfl (Nat.le_of_ble_eq_true rfl) (by omega) (by omega) dX4_fix_57 (fun H3 L3 hG hz3 hE hS => ?_)
      obtain ⟨hXo, ow9, hD8⟩ := hX2.fix (hS.low hH hB) hBF hG
      have hO9 := hX2.1
      have hN9 := hG
      obtain ⟨ow7, -, -, -, hF7⟩ := hN9
      have hO := hF7.at hO9 (by rw [hX2.2.2.2.2.2.1]; decide)
      have hlen : (dPut fx d r).length ≤ 61 := by rw [dPut_len]; split <;> omega
      obtain ⟨a8, ad8, hD8⟩ := hD8.DR (by omega)
      have hD7 := hD8.1
      refine lv_aload_n hx hb dX4_fix_60 rfl (lv_at hl 0 rfl) ?_
      refine gf hx hb hts hown hE lkX4_19 hO rfl dX4_fix_61 ?_
      refine pV hx hb hml hts hown hE kwX4_45 (c_count E fd a8 ad8 (dPut fx d r) H3 hD8) hD7 rfl (Nat.le_of_ble_eq_true rfl) rfl hl.1 rfl (Nat.le_of_ble_eq_true rfl) (by omega) (by omega) dX4_fix_64 ?_
      exact vx_ret (cI hx hb hr hlk hB hS (by omega) (by omega) (⟨⟨hcd, rfl⟩, hXo⟩) dX4_fix_67)
    | false =>
      refine lv_if_ne (tgt := 51) hx hb dX4_fix_38 (by decide) (fun c4 => ?_) (fun c4 => ?_)
      · exact absurd (by decide) c4
      have hcd : cdFix fx d r = 2 := by unfold cdFix; rw [g1, g2]; simp [c2, c3]
      exact tS (is := 72) (text := "no room for another fixing") hx hb hml hlk hxt hts hown hE0 hH hS txS (by decide) (by rw [hcd]; exact ⟨by decide, rfl⟩) hl.1 (Nat.le_of_ble_eq_true rfl) (Nat.le_of_ble_eq_true rfl) (by omega) (by omega) dX4_fix_41 dX4_fix_44 dX4_fix_45 dX4_fix_47 dX4_fix_50

set_option maxRecDepth 100000 in
set_option maxHeartbeats 4000000 in
/-- breakPart -/
theorem c_xbrk (E : ET) (ow : Nat → Nat × Nat) (x : Nat) (h0 h1 fx : Dy) (ts : List TR) (t d lo : Int32) (M : Nat) (H : Heap) (hX : XR E ow x h0 h1 fx ts H) (hV : SV h0 h1 fx ts) (hK : BL ts) (hM : ∀ tr ∈ ts, tr.2.1.length ≤ M) (hM5 : M ≤ 5000) : XCon E yX4_breakPart cX4_breakPart 5 (some FieldType.int) 10 6 (60 + 2 * M) [.ref x, .int t, .int d, .int lo] H (fun v H' => (∃ tr i, i < ts.length ∧ t = nI i ∧ trd ts t = some tr ∧ ts[i]? = some tr ∧ cdBrk ts t d lo = 0 ∧ v = some (.int (nI (tr.2.1.length + 1))) ∧ XOut E ow x h0 h1 fx (ts.set i (tr.1, tr.2.1 ++ [(d, lo)], tr.2.2)) H H')) (fun X => cdBrk ts t d lo ≠ 0 ∧ X = xn2 (cdBrk ts t d lo)) := by
  refine XCon.of (C := RX4) rfl (by decide +kernel) (Nat.le_of_ble_eq_true rfl) ?_
  intro p e s m below meth co ls hx hb hr hlk hml hown hts hxt hE hH hS hl
  have hl : lv_has ls 5 [(0, .ref x), (1, .int t), (2, .int d), (3, .int lo)] := hl
  have hB : eB E ≤ s.heap.size := by rw [hH]; exact hE.2.1
  have hE0 : EV E s s.heap := by rw [hH]; exact hE
  obtain ⟨q, fd, bk, wa, hX2⟩ := hX.x
  obtain ⟨hC, hD, hL, hT⟩ := hX2.rd hV hK
  have hO := hX2.1
  have hBF := hE.2.2.1
  refine lv_aload_n hx hb dX4_breakPart_0 rfl (lv_at hl 0 rfl) ?_
  refine lv_iload_n hx hb dX4_breakPart_1 rfl (lv_at hl 1 rfl) ?_
  refine xVc hx hb hml hlk hxt hts hown hB hE hH hS kwX4_102 (c_swapAt E ow x q fd bk wa ts t H hO hL hV.tn (fun i hi => by obtain ⟨tr, ht⟩ := getq hi; obtain ⟨db, dh, bd, h9⟩ := hT i tr ht; exact ⟨_, h9.1⟩)) (fun X h => by have e9 : cdBrk ts t d lo = 1 := (by unfold cdBrk; rw [trd_no h.2]); rw [e9]; exact ⟨by decide, h.1⟩) hO rfl (Nat.le_of_ble_eq_true rfl) rfl hl.1 rfl (Nat.le_of_ble_eq_true rfl) (by omega) (by omega) dX4_breakPart_2 (fun v1 H1 L1 ho1 hz1 hE hS => ?_)
  obtain ⟨i, hi, et, hv1, hh1⟩ := ho1
  subst hv1
  have hh1 := hh1.symm
  subst hh1
  dsimp only [Option.toList, List.nil_append, List.cons_append]
  obtain ⟨tr, ht⟩ := getq hi
  have hin := hV.tn
  have etr : trd ts t = some tr := by rw [et, trd_nI (by omega)]; exact ht
  obtain ⟨db, dh, bd, hW0, hdb, hdh, hbd, how, hob, gw, gb⟩ := hX2.2.2.2.2.1 i tr ht
  have htv := hV.tv ht
  have hkl := hK tr (List.mem_of_getElem? ht)
  have hhl : tr.2.2.length ≤ 10 := by obtain ⟨pa, lo, f, le, n, -, -, -, -, -, -, -, -, -, -, -, -, -, -, -, -, -, hh⟩ := htv; exact hh
  have hW : SRx E (wa i) tr.1 db dh bd (bfC h0 h1 tr.1) tr.2.1 tr.2.2 H := ⟨hW0, hdb.DR (by omega), hdh.DR (by omega), hbd⟩
  have hml9 := hM tr (List.mem_of_getElem? ht)
  refine lv_astore (lv' := [(4, .ref (wa i)), (0, .ref x), (1, .int t), (2, .int d), (3, .int lo)]) hx hb dX4_breakPart_5 hl (by decide) rfl (fun ls hl => ?_)
  refine lv_iload_n hx hb dX4_breakPart_7 rfl (lv_at hl 3 rfl) ?_
  refine lv_iconst (v := 0) hx hb dX4_breakPart_8 (by decide) ?_
  refine lv_sipush (v := 3000) hx hb dX4_breakPart_9 (by decide) ?_
  refine xSc hx hb hml hlk hxt hts hown hB hE hH hS kwX4_37 (c_crange E d 0 3000 H) (fun X h => by have e9 : cdBrk ts t d lo = 2 := (by unfold cdBrk; rw [etr, h.2]; rfl); rw [e9]; exact ⟨by decide, h.1⟩) (Nat.le_of_ble_eq_true rfl) rfl hl.1 rfl (Nat.le_of_ble_eq_true rfl) (by omega) (by omega) dX4_breakPart_12 (fun v2 H2 L2 ho2 hz2 hE hS => ?_)
  obtain ⟨g1, hv2, hh2⟩ := ho2
  subst hv2
  have hh2 := hh2.symm
  subst hh2
  dsimp only [Option.toList, List.nil_append, List.cons_append]
  refine lv_iload_n hx hb dX4_breakPart_15 rfl (lv_at hl 4 rfl) ?_
  refine lv_iconst (v := 1) hx hb dX4_breakPart_16 (by decide) ?_
  refine lv_sipush (v := 1000) hx hb dX4_breakPart_17 (by decide) ?_
  refine xSc hx hb hml hlk hxt hts hown hB hE hH hS kwX4_37 (c_crange E lo 1 1000 H) (fun X h => by have e9 : cdBrk ts t d lo = 2 := (by unfold cdBrk; rw [etr, g1, h.2]; rfl); rw [e9]; exact ⟨by decide, h.1⟩) (Nat.le_of_ble_eq_true rfl) rfl hl.1 rfl (Nat.le_of_ble_eq_true rfl) (by omega) (by omega) dX4_breakPart_20 (fun v3 H3 L3 ho3 hz3 hE hS => ?_)
  obtain ⟨g2, hv3, hh3⟩ := ho3
  subst hv3
  have hh3 := hh3.symm
  subst hh3
  dsimp only [Option.toList, List.nil_append, List.cons_append]
  refine lv_aload hx hb dX4_breakPart_23 (lv_at hl 0 rfl) ?_
  refine pV hx hb hml hts hown hE kwX4_121 (c_rest E (wa i) tr.1 db dh bd (bfC h0 h1 tr.1) tr.2.1 tr.2.2 H hW) hW0 rfl (Nat.le_of_ble_eq_true rfl) rfl hl.1 rfl (Nat.le_of_ble_eq_true rfl) (by omega) (by omega) dX4_breakPart_25 ?_
  refine lv_iload_n hx hb dX4_breakPart_28 rfl (lv_at hl 4 rfl) ?_
  refine lv_icmp_ge (tgt := 42) hx hb dX4_breakPart_29 (by decide) (fun c1 => ?_) (fun c1 => ?_)
  · have hcd : cdBrk ts t d lo = 0 := by unfold cdBrk; rw [etr]; simp only; rw [g1, g2]; simp only [Bool.and_self, if_true]; exact if_neg (Int32.not_lt.mpr c1)
    obtain ⟨a9, ad9, hD8, -⟩ := hdb.DRx (by omega)
    have hD0 := hD8.1
    refine lv_aload hx hb dX4_breakPart_42 (lv_at hl 0 rfl) ?_
    refine gf hx hb hts hown hE lkX4_106 hW0 rfl dX4_breakPart_44 ?_
    refine lv_iload_n hx hb dX4_breakPart_47 rfl (lv_at hl 3 rfl) ?_
    refine lv_iload_n hx hb dX4_breakPart_48 rfl (lv_at hl 4 rfl) ?_
    refine gVU hx hb hml hts hown hB hE hS kwX4_58 (c_dadd E ow (10 + 3 * i + 1) db tr.2.1 d lo H hdb (by omega)) hD0 rfl (Nat.le_of_ble_eq_true rfl) rfl hl.1 rfl (Nat.le_of_ble_eq_true rfl) (by omega) (by omega) dX4_breakPart_49 (fun H4 L4 hG hz4 hE hS => ?_)
    obtain ⟨ow9, e1, e2, hSn, hFn⟩ := SRo.brk hW0 hdh hbd how hob gw gb (hS.low hH hB) hBF hG
    have hN : ∀ z, z < H.size → ¬ (10 + 3 * i ≤ (ow z).1 ∧ (ow z).1 ≤ 10 + 3 * i + 2) → H4[z]? = H[z]? := fun z h9 h8 => hFn.2 z h9 (fun e => h8 (by have e : (ow z).1 = _ := e; omega))
    have hX3 := hX2.swp ht hSn hN (hS.low hH hB) hBF e1
    have hXo := hX3.out (t := i) e1 (fun z h9 => by rw [e2 z h9]; omega) hFn.1 hN
    obtain ⟨db2, dh2, bd2, hW2, hdb2, -⟩ := id hSn
    obtain ⟨a7, ad7, hD7, -⟩ := hdb2.DRx (by rw [List.length_append]; show tr.2.1.length + 1 < _; omega)
    have hD6 := hD7.1
    refine lv_aload hx hb dX4_breakPart_52 (lv_at hl 0 rfl) ?_
    refine gf hx hb hts hown hE lkX4_106 hW2 rfl dX4_breakPart_54 ?_
    refine pV hx hb hml hts hown hE kwX4_45 (c_count E db2 a7 ad7 (tr.2.1 ++ [(d, lo)]) H4 hD7) hD6 rfl (Nat.le_of_ble_eq_true rfl) rfl hl.1 rfl (Nat.le_of_ble_eq_true rfl) (by omega) (by omega) dX4_breakPart_57 ?_
    exact vx_ret (cI hx hb hr hlk hB hS (by omega) (by omega) (⟨tr, i, hi, et, etr, ht, hcd, by rw [List.length_append]; rfl, hXo⟩) dX4_breakPart_60)
  · have hcd : cdBrk ts t d lo = 3 := by unfold cdBrk; rw [etr]; simp only; rw [g1, g2]; simp only [Bool.and_self, if_true]; exact if_pos (Int32.not_le.mp c1)
    exact tS (is := 124) (text := "the rest of the trade is less than that") hx hb hml hlk hxt hts hown hE0 hH hS txS (by decide) (by rw [hcd]; exact ⟨by decide, rfl⟩) hl.1 (Nat.le_of_ble_eq_true rfl) (Nat.le_of_ble_eq_true rfl) (by omega) (by omega) dX4_breakPart_32 dX4_breakPart_35 dX4_breakPart_36 dX4_breakPart_38 dX4_breakPart_41

set_option maxRecDepth 100000 in
set_option maxHeartbeats 4000000 in
/-- handOver -/
theorem c_xhnd (E : ET) (ow : Nat → Nat × Nat) (x : Nat) (h0 h1 fx : Dy) (ts : List TR) (t d pa : Int32) (H : Heap) (hX : XR E ow x h0 h1 fx ts H) (hV : SV h0 h1 fx ts) (hK : BL ts)  : XCon E yX4_handOver cX4_handOver 6 (some FieldType.int) 10 6 80 [.ref x, .int t, .int d, .int pa] H (fun v H' => (∃ tr i, i < ts.length ∧ t = nI i ∧ trd ts t = some tr ∧ ts[i]? = some tr ∧ cdHnd ts t d pa = 0 ∧ v = some (.int (hldS tr.1 tr.2.2 d)) ∧ XOut E ow x h0 h1 fx (ts.set i (tr.1, tr.2.1, tr.2.2 ++ [(d, pa)])) H H')) (fun X => cdHnd ts t d pa ≠ 0 ∧ X = xn2 (cdHnd ts t d pa)) := by
  refine XCon.of (C := RX4) rfl (by decide +kernel) (Nat.le_of_ble_eq_true rfl) ?_
  intro p e s m below meth co ls hx hb hr hlk hml hown hts hxt hE hH hS hl
  have hl : lv_has ls 6 [(0, .ref x), (1, .int t), (2, .int d), (3, .int pa)] := hl
  have hB : eB E ≤ s.heap.size := by rw [hH]; exact hE.2.1
  have hE0 : EV E s s.heap := by rw [hH]; exact hE
  obtain ⟨q, fd, bk, wa, hX2⟩ := hX.x
  obtain ⟨hC, hD, hL, hT⟩ := hX2.rd hV hK
  have hO := hX2.1
  have hBF := hE.2.2.1
  refine lv_aload_n hx hb dX4_handOver_0 rfl (lv_at hl 0 rfl) ?_
  refine lv_iload_n hx hb dX4_handOver_1 rfl (lv_at hl 1 rfl) ?_
  refine xVc hx hb hml hlk hxt hts hown hB hE hH hS kwX4_102 (c_swapAt E ow x q fd bk wa ts t H hO hL hV.tn (fun i hi => by obtain ⟨tr, ht⟩ := getq hi; obtain ⟨db, dh, bd, h9⟩ := hT i tr ht; exact ⟨_, h9.1⟩)) (fun X h => by have e9 : cdHnd ts t d pa = 1 := (by unfold cdHnd; rw [trd_no h.2]); rw [e9]; exact ⟨by decide, h.1⟩) hO rfl (Nat.le_of_ble_eq_true rfl) rfl hl.1 rfl (Nat.le_of_ble_eq_true rfl) (by omega) (by omega) dX4_handOver_2 (fun v1 H1 L1 ho1 hz1 hE hS => ?_)
  obtain ⟨i, hi, et, hv1, hh1⟩ := ho1
  subst hv1
  have hh1 := hh1.symm
  subst hh1
  dsimp only [Option.toList, List.nil_append, List.cons_append]
  obtain ⟨tr, ht⟩ := getq hi
  have hin := hV.tn
  have etr : trd ts t = some tr := by rw [et, trd_nI (by omega)]; exact ht
  obtain ⟨db, dh, bd, hW0, hdb, hdh, hbd, how, hob, gw, gb⟩ := hX2.2.2.2.2.1 i tr ht
  have htv := hV.tv ht
  have hkl := hK tr (List.mem_of_getElem? ht)
  have hhl : tr.2.2.length ≤ 10 := by obtain ⟨pa, lo, f, le, n, -, -, -, -, -, -, -, -, -, -, -, -, -, -, -, -, -, hh⟩ := htv; exact hh
  have hW : SRx E (wa i) tr.1 db dh bd (bfC h0 h1 tr.1) tr.2.1 tr.2.2 H := ⟨hW0, hdb.DR (by omega), hdh.DR (by omega), hbd⟩
  refine lv_astore (lv' := [(4, .ref (wa i)), (0, .ref x), (1, .int t), (2, .int d), (3, .int pa)]) hx hb dX4_handOver_5 hl (by decide) rfl (fun ls hl => ?_)
  refine lv_iload_n hx hb dX4_handOver_7 rfl (lv_at hl 4 rfl) ?_
  refine xSc hx hb hml hlk hxt hts hown hB hE hH hS kwX4_81 (c_cparty E pa H) (fun X h => by have e9 : cdHnd ts t d pa = 1 := (by unfold cdHnd; rw [etr]; simp only; rw [h.2]; rfl); rw [e9]; exact ⟨by decide, h.1⟩) (Nat.le_of_ble_eq_true rfl) rfl hl.1 rfl (Nat.le_of_ble_eq_true rfl) (by omega) (by omega) dX4_handOver_8 (fun v2 H2 L2 ho2 hz2 hE hS => ?_)
  obtain ⟨g1, hv2, hh2⟩ := ho2
  subst hv2
  have hh2 := hh2.symm
  subst hh2
  dsimp only [Option.toList, List.nil_append, List.cons_append]
  refine lv_iload_n hx hb dX4_handOver_11 rfl (lv_at hl 3 rfl) ?_
  refine lv_iconst (v := 0) hx hb dX4_handOver_12 (by decide) ?_
  refine lv_sipush (v := 3000) hx hb dX4_handOver_13 (by decide) ?_
  refine xSc hx hb hml hlk hxt hts hown hB hE hH hS kwX4_37 (c_crange E d 0 3000 H) (fun X h => by have e9 : cdHnd ts t d pa = 2 := (by unfold cdHnd; rw [etr]; simp only; rw [g1, h.2]; rfl); rw [e9]; exact ⟨by decide, h.1⟩) (Nat.le_of_ble_eq_true rfl) rfl hl.1 rfl (Nat.le_of_ble_eq_true rfl) (by omega) (by omega) dX4_handOver_16 (fun v3 H3 L3 ho3 hz3 hE hS => ?_)
  obtain ⟨g2, hv3, hh3⟩ := ho3
  subst hv3
  have hh3 := hh3.symm
  subst hh3
  dsimp only [Option.toList, List.nil_append, List.cons_append]
  obtain ⟨a9, ad9, hD9⟩ := hW.2.2.1
  have hD0 := hD9.1
  refine lv_aload hx hb dX4_handOver_19 (lv_at hl 0 rfl) ?_
  refine gf hx hb hts hown hE lkX4_126 hW0 rfl dX4_handOver_21 ?_
  refine pV hx hb hml hts hown hE kwX4_45 (c_count E dh a9 ad9 tr.2.2 H hD9) hD0 rfl (Nat.le_of_ble_eq_true rfl) rfl hl.1 rfl (Nat.le_of_ble_eq_true rfl) (by omega) (by omega) dX4_handOver_24 ?_
  refine lv_bipush (v := 10) hx hb dX4_handOver_27 (by decide) ?_
  refine lv_icmp_lt (tgt := 42) hx hb dX4_handOver_29 (by decide) (fun c1 => ?_) (fun c1 => ?_)
  · have c2 : tr.2.2.length < 10 := by
      rcases Nat.lt_or_ge tr.2.2.length 10 with q9 | q9
      · exact q9
      · exact absurd c1 (nI_nlt (a := tr.2.2.length) (b := 10) q9 (by omega))
    have hcd : cdHnd ts t d pa = 0 := by unfold cdHnd; rw [etr]; simp only; rw [g1, g2]; simp only [if_true]; exact if_neg (Nat.not_le.mpr c2)
    refine lv_aload hx hb dX4_handOver_42 (lv_at hl 0 rfl) ?_
    refine lv_iload_n hx hb dX4_handOver_44 rfl (lv_at hl 3 rfl) ?_
    refine pV hx hb hml hts hown hE kwX4_131 (c_hold E (wa i) tr.1 db dh bd (bfC h0 h1 tr.1) tr.2.1 tr.2.2 d H hW) hW0 rfl (Nat.le_of_ble_eq_true rfl) rfl hl.1 rfl (Nat.le_of_ble_eq_true rfl) (by omega) (by omega) dX4_handOver_45 ?_
    refine lv_istore (lv' := [(5, .int (hldS tr.1 tr.2.2 d)), (4, .ref (wa i)), (0, .ref x), (1, .int t), (2, .int d), (3, .int pa)]) hx hb dX4_handOver_48 hl (by decide) rfl (fun ls hl => ?_)
    refine lv_aload hx hb dX4_handOver_50 (lv_at hl 1 rfl) ?_
    refine gf hx hb hts hown hE lkX4_126 hW0 rfl dX4_handOver_52 ?_
    refine lv_iload_n hx hb dX4_handOver_55 rfl (lv_at hl 4 rfl) ?_
    refine lv_iload_n hx hb dX4_handOver_56 rfl (lv_at hl 5 rfl) ?_
    refine gVU hx hb hml hts hown hB hE hS kwX4_58 (c_dadd E ow (10 + 3 * i + 2) dh tr.2.2 d pa H hdh (by omega)) hD0 rfl (Nat.le_of_ble_eq_true rfl) rfl hl.1 rfl (Nat.le_of_ble_eq_true rfl) (by omega) (by omega) dX4_handOver_57 (fun H4 L4 hG hz4 hE hS => ?_)
    obtain ⟨ow9, e1, e2, hSn, hFn⟩ := SRo.hnd hW0 hdb hbd how hob gw gb (hS.low hH hB) hBF hG
    have hN : ∀ z, z < H.size → ¬ (10 + 3 * i ≤ (ow z).1 ∧ (ow z).1 ≤ 10 + 3 * i + 2) → H4[z]? = H[z]? := fun z h9 h8 => hFn.2 z h9 (fun e => h8 (by have e : (ow z).1 = _ := e; omega))
    have hX3 := hX2.swp ht hSn hN (hS.low hH hB) hBF e1
    have hXo := hX3.out (t := i) e1 (fun z h9 => by rw [e2 z h9]; omega) hFn.1 hN
    refine lv_iload hx hb dX4_handOver_60 (lv_at hl 0 rfl) ?_
    exact vx_ret (cI hx hb hr hlk hB hS (by omega) (by omega) (⟨tr, i, hi, et, etr, ht, hcd, rfl, hXo⟩) dX4_handOver_62)
  · have c2 : 10 ≤ tr.2.2.length := by
      rcases Nat.lt_or_ge tr.2.2.length 10 with q9 | q9
      · exact absurd (nI_lt (a := tr.2.2.length) (b := 10) q9 (by decide)) c1
      · exact q9
    have hcd : cdHnd ts t d pa = 3 := by unfold cdHnd; rw [etr]; simp only; rw [g1, g2]; simp only [if_true]; exact if_pos c2
    exact tS (is := 129) (text := "the trade was handed over too often") hx hb hml hlk hxt hts hown hE0 hH hS txS (by decide) (by rw [hcd]; exact ⟨by decide, rfl⟩) hl.1 (Nat.le_of_ble_eq_true rfl) (Nat.le_of_ble_eq_true rfl) (by omega) (by omega) dX4_handOver_32 dX4_handOver_35 dX4_handOver_36 dX4_handOver_38 dX4_handOver_41
