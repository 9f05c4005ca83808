/-! both worlds side by side at the law's loop; what a call's answer 0 says of the new state -/
def LI (E : ET) (x mo o n cells slots : Nat) (H : Heap) : Prop := ∃ (ow : Nat → Nat × Nat) (h0 h1 fx : Dy) (ts : List TR) (B : BK) (c : Nat) (f : Nat → Int64), XR E ow x h0 h1 fx ts H ∧ MW E ow mo h0 h1 fx ts B c H ∧ JA E 1 f o H ∧ ow o = (4, 100) ∧ SV h0 h1 fx ts ∧ B.length ≤ n + 2 * zc ts ∧ cells ≤ 40 + 16 * n + 4 * zc ts ∧ slots ≤ 50000 + 1300 * n + 2500 * zc ts
theorem MW.bl {E : ET} {ow : Nat → Nat × Nat} {x : Nat} {h0 h1 fx : Dy} {ts : List TR} {B : BK} {c : Nat} {H : Heap} (h : MW E ow x h0 h1 fx ts B c H) : ∀ tr ∈ ts, tr.2.1.length ≤ B.length := by
  obtain ⟨sc, ad, ar, hM, hI, hc⟩ := h
  intro tr ht
  obtain ⟨t, ht⟩ := List.mem_iff_getElem?.mp ht
  rw [hI.2.2.2.2.2.2.2.2.2.1 t tr ht]
  exact brk_len B t
theorem WOut.go {E : ET} {ow : Nat → Nat × Nat} {x mo o : Nat} {h0 h1 fx g0 g1 gx : Dy} {ts us : List TR} {B : BK} {c : Nat} {f : Nat → Int64} {P : (Nat → Int64) → Prop} {H H1 : Heap} (hW : WOut E ow x o h0 h1 fx ts P H H1) (hM : MW E ow mo g0 g1 gx us B c H) (hJ : JA E 1 f o H) (ho : ow o = (4, 100)) : ∃ (ow1 : Nat → Nat × Nat) (f1 : Nat → Int64), XR E ow1 x h0 h1 fx ts H1 ∧ MW E ow1 mo g0 g1 gx us B c H1 ∧ JA E 1 f1 o H1 ∧ ow1 o = (4, 100) ∧ P f1 := by
  obtain ⟨ow', f1, e1, e2, hR, hJ1, hP, hF⟩ := hW
  exact ⟨ow', f1, hR, hM.kept (fun q h h4 h23 => hF.2 q h (fun e => e.elim (fun e => e h4) (fun e => by rw [e, ho] at h23; exact absurd h23 (by decide)))) e1, hJ1, (e1 o (plt hJ)).trans ho, hP⟩
theorem old9 {E : ET} {s : State} {H H1 : Heap} {locs locs1 : List Loc} (hB : eB E ≤ s.heap.size) (hS : va_S (fr E) s.heap H locs) (hS1 : va_S (fr E) s.heap H1 locs1) : ∀ q : Nat, q < eB E → H1[q]? = H[q]? := fun q h =>
  (hS1.2.1 q (Nat.lt_of_lt_of_le h hB) (Nat.not_le_of_lt h)).trans (hS.2.1 q (Nat.lt_of_lt_of_le h hB) (Nat.not_le_of_lt h)).symm
theorem MO.go {E : ET} {ow : Nat → Nat × Nat} {x mo o : Nat} {h0 h1 fx g0 g1 gx : Dy} {ts us : List TR} {B : BK} {c : Nat} {f : Nat → Int64} {H H1 : Heap} (hM : MO E ow mo h0 h1 fx ts B c H H1) (hX : XR E ow x g0 g1 gx us H) (hJ : JA E 1 f o H) (ho : ow o = (4, 100)) (hold : ∀ q : Nat, q < eB E → H1[q]? = H[q]?) (hBF : eF E < eB E) : XR E ow x g0 g1 gx us H1 ∧ MW E ow mo h0 h1 fx ts B c H1 ∧ JA E 1 f o H1 :=
  ⟨hX.kept hold hBF (fun q h h4 => hM.2.1.2 q h (fun e => h4 e.1)) (fun _ _ => rfl), hM.1, hM.2.1.at hJ (fun e => by rw [ho] at e; exact absurd e.2 (by decide))⟩
/-! what answer 0 says -/
theorem sv_hol {h0 h1 fx : Dy} {ts : List TR} {town d : Int32} (hV : SV h0 h1 fx ts) (h : cdHol h0 h1 town d = 0) : SV (if town = 0 then h0 ++ [(d, town)] else h0) (if town = 0 then h1 else h1 ++ [(d, town)]) fx ts := by
  unfold cdHol at h
  by_cases c1 : inB town 0 1 = true
  · rw [if_pos c1] at h
    by_cases hd : inB d 0 3000 = true
    · rw [if_pos hd] at h
      by_cases hn : (decide (20 ≤ (if town = 0 then h0 else h1).length) || dHas (if town = 0 then h0 else h1) d) = true
      · rw [if_pos hn] at h; exact absurd h (by decide)
      · obtain ⟨j, hj, e⟩ := inB_nI (n := 3000) hd
        have hl : (if town = 0 then h0 else h1).length < 20 := by
          rcases Nat.lt_or_ge (if town = 0 then h0 else h1).length 20 with q | q
          · exact q
          · have q : 20 ≤ (if town = 0 then h0 else h1).length := q
            exact absurd (by rw [decide_eq_true q]; rfl) hn
        rw [e]
        by_cases c : town = 0
        · rw [if_pos c] at hl
          rw [if_pos c, if_pos c]
          exact hV.hol0 hj hl
        · rw [if_neg c] at hl
          rw [if_neg c, if_neg c]
          exact hV.hol1 hj hl
    · rw [if_neg hd] at h; exact absurd h (by decide)
  · rw [if_neg c1] at h; exact absurd h (by decide)
theorem sv_fix {h0 h1 fx : Dy} {ts : List TR} {d r : Int32} (hV : SV h0 h1 fx ts) (h : cdFix fx d r = 0) : SV h0 h1 (dPut fx d r) ts := by
  unfold cdFix at h
  split at h
  · rename_i hd
    split at h
    · cases h
    · rename_i hn
      obtain ⟨j, hj, e⟩ := inB_nI (n := 3000) (Bool.and_eq_true_iff.mp hd).1
      have hl : (dPut fx d r).length ≤ 60 := by
        rw [dPut_len]
        cases c : dHas fx d with
        | true => rw [if_pos rfl]; exact hV.2.2.2.2.2.1
        | false =>
          rw [if_neg (by decide)]
          rcases Nat.lt_or_ge fx.length 60 with q | q
          · exact q
          · exact absurd (by rw [decide_eq_true q, c]; rfl) hn
      rw [e] at hl ⊢
      exact hV.fix hj hl
  · cases h
theorem sv_trd {h0 h1 fx : Dy} {ts : List TR} {pa lo py fi fs le pe : Int32} (hV : SV h0 h1 fx ts) (hpy : py = 0 ∨ py = 1) (h : cdTrd ts pa lo fi fs le pe = 0) : SV h0 h1 fx (ts ++ [(mkT pa lo py fi fs le pe, [], [])]) := by
  unfold cdTrd at h
  split at h
  · rename_i g0
    split at h
    · rename_i g
      split at h
      · cases h
      · rename_i hn
        obtain ⟨g1, g⟩ := Bool.and_eq_true_iff.mp g
        obtain ⟨g2, g⟩ := Bool.and_eq_true_iff.mp g
        obtain ⟨g3, g⟩ := Bool.and_eq_true_iff.mp g
        obtain ⟨g4, g5⟩ := Bool.and_eq_true_iff.mp g
        exact hV.trd (TV.new g0 g1 hpy g3 g4 g5) (by omega)
    · cases h
  · cases h
theorem trd_at {h0 h1 fx : Dy} {ts : List TR} {t : Int32} {i : Nat} {tr : TR} (hV : SV h0 h1 fx ts) (et : t = nI i) (ht : ts[i]? = some tr) : trd ts t = some tr := by
  have h1 := lt_of_get ht
  have h2 := hV.tn
  rw [et, trd_nI (by omega)]
  exact ht
theorem sv_set {h0 h1 fx : Dy} {ts : List TR} {t sp dc co : Int32} {i : Nat} {tr : TR} (hV : SV h0 h1 fx ts) (et : t = nI i) (ht : ts[i]? = some tr) (h : cdSet ts t sp dc co = 0) : SV h0 h1 fx (ts.set i (setT tr.1 sp dc co, tr.2.1, tr.2.2)) := by
  unfold cdSet at h
  rw [trd_at hV et ht] at h
  dsimp only at h
  split at h
  · rename_i g
    obtain ⟨g1, g⟩ := Bool.and_eq_true_iff.mp g
    obtain ⟨g2, g3⟩ := Bool.and_eq_true_iff.mp g
    refine hV.set ((hV.tv ht).setT (inB01 g2) ?_)
    obtain ⟨j, hj, e⟩ := inB_nI (n := 2) g3
    rcases (show j = 0 ∨ j = 1 ∨ j = 2 by omega) with q | q | q <;> subst q
    · exact Or.inl e
    · exact Or.inr (Or.inl e)
    · exact Or.inr (Or.inr e)
  · cases h
theorem zc_sets {ts : List TR} {sp dc co : Int32} {i : Nat} {tr : TR} (ht : ts[i]? = some tr) : zc ts ≤ zc (ts.set i (setT tr.1 sp dc co, tr.2.1, tr.2.2)) := zc_set (u := (setT tr.1 sp dc co, tr.2.1, tr.2.2)) (tr := tr) (fun h => h) ts i ht
theorem zc_hnd {ts : List TR} {hs : Dy} {i : Nat} {tr : TR} (ht : ts[i]? = some tr) : zc ts ≤ zc (ts.set i (tr.1, tr.2.1, hs)) := zc_set (u := (tr.1, tr.2.1, hs)) (tr := tr) (fun h => h) ts i ht
theorem sv_brk {h0 h1 fx : Dy} {ts : List TR} {t d lo : Int32} {i : Nat} {tr : TR} (hV : SV h0 h1 fx ts) (et : t = nI i) (ht : ts[i]? = some tr) (h : cdBrk ts t d lo = 0) : SV h0 h1 fx (ts.set i (brT tr d lo)) ∧ zc ts ≤ zc (ts.set i (brT tr d lo)) := by
  unfold cdBrk at h
  rw [trd_at hV et ht] at h
  dsimp only at h
  split at h
  · rename_i g
    obtain ⟨g1, g2⟩ := Bool.and_eq_true_iff.mp g
    split at h
    · cases h
    · rename_i hn
      refine ⟨hV.set (tv_brT2 (hV.tv ht) g1 lo), zc_set (fun e => ?_) ts i ht⟩
      rw [e] at hn
      obtain ⟨j, hj1, hj2, ej⟩ := inB_nI2 (a := 1) (b := 1000) g2
      refine absurd ?_ hn
      rw [ej]
      exact nI_lt (a := 0) (by omega) (by omega)
  · cases h
theorem sv_hnd {h0 h1 fx : Dy} {ts : List TR} {t d pa : Int32} {i : Nat} {tr : TR} (hV : SV h0 h1 fx ts) (et : t = nI i) (ht : ts[i]? = some tr) (h : cdHnd ts t d pa = 0) : SV h0 h1 fx (ts.set i (tr.1, tr.2.1, tr.2.2 ++ [(d, pa)])) := by
  unfold cdHnd at h
  rw [trd_at hV et ht] at h
  dsimp only at h
  split at h
  · split at h
    · split at h
      · cases h
      · rename_i hn
        exact hV.set ((hV.tv ht).hnd (by omega))
    · cases h
  · cases h
theorem PV.ou {h0 h1 fx : Dy} {n K d : Nat} (hd : d ≤ 3000) : ∀ r i (P : PS), PV h0 h1 fx n K P → PV h0 h1 fx n K (pou h0 h1 (nI d) n r i P)
  | 0, _, _, h => h
  | r + 1, i, _, h => PV.ou hd r (i + 1) _ (PV.in hd _ _ _ h)
theorem sv_prs {h0 h1 fx : Dy} {ts : List TR} {d : Int32} {K : Nat} (hV : SV h0 h1 fx ts) (hK : ∀ tr ∈ ts, tr.2.1.length ≤ K) (h : inB d 0 3000 = true) : SV h0 h1 fx (prs h0 h1 d ts).1 ∧ zc ts + (prs h0 h1 d ts).2.2.1 ≤ zc (prs h0 h1 d ts).1 := by
  refine ⟨?_, zc_prs (of_decide_eq_true (Bool.and_eq_true_iff.mp h).2)⟩
  obtain ⟨j, hj, e⟩ := inB_nI (n := 3000) h
  rw [e]
  exact (PV.ou (K := K) hj ts.length 0 (ts, 0, 0, []) ⟨rfl, hV, hK⟩).2.1
/-- pressing on a day that isn't one: the law's call does nothing, but its room must be named all the same -/
theorem cdDay_0 {d : Int32} : cdDay d = 0 ↔ inB d 0 3000 = true := by
  unfold cdDay
  constructor
  · intro h
    split at h
    · assumption
    · cases h
  · intro h
    rw [h]
    rfl
/-! pressing on a day that isn't one -/
theorem pst_cn (h0 h1 : Dy) (day : Int32) (i j : Nat) (P : PS) : (pst h0 h1 day i j P).2.2.1 ≤ P.2.2.1 + 1 := by
  unfold pst
  split
  · split
    · exact Nat.le_refl _
    · exact Nat.le_succ _
  · exact Nat.le_succ _
theorem pin_cn (h0 h1 : Dy) (day : Int32) (i : Nat) : ∀ r j P, (pin h0 h1 day i r j P).2.2.1 ≤ P.2.2.1 + r
  | 0, _, _ => Nat.le_refl _
  | r + 1, j, P => by
    have a1 := pst_cn h0 h1 day i j P
    have a2 := pin_cn h0 h1 day i r (j + 1) (pst h0 h1 day i j P)
    show (pin h0 h1 day i r (j + 1) (pst h0 h1 day i j P)).2.2.1 ≤ P.2.2.1 + (r + 1)
    omega
theorem pou_cn (h0 h1 : Dy) (day : Int32) (n : Nat) (hn : n ≤ 10) : ∀ r i P, (pou h0 h1 day n r i P).2.2.1 ≤ P.2.2.1 + 10 * r
  | 0, _, _ => Nat.le_refl _
  | r + 1, i, P => by
    have a1 := pin_cn h0 h1 day i (n - (i + 1)) (i + 1) P
    have a2 := pou_cn h0 h1 day n hn r (i + 1) (pin h0 h1 day i (n - (i + 1)) (i + 1) P)
    show (pou h0 h1 day n r (i + 1) (pin h0 h1 day i (n - (i + 1)) (i + 1) P)).2.2.1 ≤ P.2.2.1 + 10 * (r + 1)
    omega
theorem prs_cn (h0 h1 : Dy) (day : Int32) (ts : List TR) (hn : ts.length ≤ 10) : (prs h0 h1 day ts).2.2.1 ≤ 100 := by
  have := pou_cn h0 h1 day ts.length hn ts.length 0 (ts, 0, 0, [])
  have : (prs h0 h1 day ts).2.2.1 ≤ 0 + 10 * ts.length := this
  omega
set_option maxRecDepth 100000 in
set_option maxHeartbeats 4000000 in
theorem c_xpress0 (E : ET) (ow : Nat → Nat × Nat) (x : Nat) (h0 h1 fx : Dy) (ts : List TR) (d : Int32) (H : Heap) (hX : XR E ow x h0 h1 fx ts H) (hin : inB d 0 3000 = false) : XCon E yX4_press cX4_press 5 (some FieldType.int) 10 1 6 [.ref x, .int d] H (fun _ _ => False) (fun X => X = xA) := by
  refine XCon.of (C := RX4) rfl (by decide +kernel) (Nat.le_of_ble_eq_true rfl) ?_
  intro p e s m below meth co ls hx hb hr hlk hml hown hts hxt hE hH hS hl
  have hl : lv_has ls 5 [(0, .ref x), (1, .int d)] := hl
  have hB : eB E ≤ s.heap.size := by rw [hH]; exact hE.2.1
  refine lv_iload_n hx hb dX4_press_0 rfl (lv_at hl 1 rfl) ?_
  refine lv_iconst (v := 0) hx hb dX4_press_1 (by decide) ?_
  refine lv_sipush (v := 3000) hx hb dX4_press_2 (by decide) ?_
  refine xSc hx hb hml hlk hxt hts hown hB hE hH hS kwX4_37 (c_crange E d 0 3000 H) (fun _ h => h.1) (Nat.le_of_ble_eq_true rfl) rfl hl.1 rfl (Nat.le_of_ble_eq_true rfl) (by omega) (by omega) dX4_press_5 (fun v1 H1 L1 ho1 hz1 hE hS => ?_)
  exact absurd ho1.1 (by rw [hin]; decide)
set_option maxRecDepth 100000 in
set_option maxHeartbeats 4000000 in
theorem w_press0 (E : ET) (ow : Nat → Nat × Nat) (x o : Nat) (h0 h1 fx : Dy) (ts : List TR) (f : Nat → Int64) (d : Int32) (H : Heap) (hX : XR E ow x h0 h1 fx ts H) (hJ : JA E 1 f o H) (hin : inB d 0 3000 = false) : WCon E yL_press cL_press 4 (some FieldType.int) [(0, 9, 12, 15)] 11 1 6 [.ref x, .int d, .ref o] H (fun v H' => v = some (.int (nI (cdDay d))) ∧ WOut E ow x o h0 h1 fx ts (fun _ => True) H H') := by
  refine WCon.of (C := RL) rfl (by decide +kernel) (Nat.le_of_ble_eq_true rfl) ?_
  intro p e s m below meth co ls hx hb hr hlk hml hown hts hxt hE hH hS hl
  have hl : lv_has ls 4 [(0, .ref x), (1, .int d), (2, .ref o)] := hl
  have hB : eB E ≤ s.heap.size := by rw [hH]; exact hE.2.1
  have hBF := hE.2.2.1
  have hgB : eB E ≤ H.size := hE.2.1
  have hO := hX.x.choose_spec.choose_spec.choose_spec.choose_spec.1
  refine lv_aload_n hx hb dL_press_0 rfl (lv_at hl 2 rfl) ?_
  refine lv_iconst (v := 0) hx hb dL_press_1 (by decide) ?_
  refine lv_aload_n hx hb dL_press_2 rfl (lv_at hl 0 rfl) ?_
  refine lv_iload_n hx hb dL_press_3 rfl (lv_at hl 1 rfl) ?_
  refine xVh hx hb hml hts hown hB hE hS kwL_48 (c_xpress0 E ow x h0 h1 fx ts d H hX hin) hO rfl (Nat.le_of_ble_eq_true rfl) rfl hl.1 rfl (Nat.le_of_ble_eq_true rfl) (by omega) (by omega) dL_press_4 (fun X ce q9 H1 L1 hbad hz1 hq1 hE hS hce hcv hcl => ?_) (fun v1 H1 L1 ho1 hz1 hE hS => ho1.elim)
  have hXn : X = xA := hbad
  subst hXn
  have hcd : cdDay d = 1 := by unfold cdDay; rw [hin]; rfl
  refine ctc (pre9 := []) (suf9 := []) hts hown hxt hE rfl (fun z hz => by simp at hz) (by decide) qw1_105 (by decide) (by decide) hce hcv hcl ?_
  refine lv_astore_n (lv' := [(3, .ref q9), (0, .ref x), (1, .int d), (2, .ref o)]) hx hb dL_press_12 rfl hl (by decide) rfl (fun ls hl => ?_)
  refine lv_iconst (v := 1) hx hb dL_press_13 (by decide) ?_
  exact vx_ret (cI hx hb hr hlk hB hS (by omega) (by omega) (⟨by rw [hcd]; rfl, WOut.same hX hJ hz1 hq1 hBF hgB trivial⟩) dL_press_14)
