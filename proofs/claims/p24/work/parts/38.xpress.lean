/-- the office all along the pressing -/
def PI (E : ET) (ow0 : Nat → Nat × Nat) (x q fd bk : Nat) (wa : Nat → Nat) (h0 h1 fx : Dy) (n K : Nat) (P : PS) (H0 H : Heap) (ow : Nat → Nat × Nat) : Prop := XRx E ow x q fd bk wa h0 h1 fx P.1 H ∧ PV h0 h1 fx n K P ∧ (∀ z, z < H0.size → ow z = ow0 z) ∧ (∀ z, H0.size ≤ z → 10 ≤ (ow z).1) ∧ FR (fun z => 10 ≤ (ow0 z).1) H0 H
theorem PI.st {E : ET} {ow0 ow ow' : Nat → Nat × Nat} {x q fd bk : Nat} {wa : Nat → Nat} {h0 h1 fx : Dy} {n K d i j : Nat} {P : PS} {tr ur : TR} {H0 H H1 : Heap} (h : PI E ow0 x q fd bk wa h0 h1 fx n K P H0 H ow) (hd : d ≤ 3000) (hi : P.1[i]? = some tr) (hj : P.1[j]? = some ur) (e1 : ∀ z, z < H.size → ow' z = ow z) (e2 : ∀ z, H.size ≤ z → 10 ≤ (ow' z).1) (hX : XRx E ow' x q fd bk wa h0 h1 fx (if prD h0 h1 (nI d) tr ur then (P.1.set i (brT tr (nI d) (mnR tr ur))).set j (brT ur (nI d) (mnR tr ur)) else P.1) H1) (hF : FR (fun z => 10 ≤ (ow z).1) H H1) : PI E ow0 x q fd bk wa h0 h1 fx n K (pst h0 h1 (nI d) i j P) H0 H1 ow' := by
  obtain ⟨g1, g2, g3, g4, g5⟩ := h
  have gz := g5.1
  refine ⟨?_, g2.st hd, fun z hz => by rw [e1 z (by omega)]; exact g3 z hz, fun z hz => ?_, g5.tr hF (fun z hz hm => ?_)⟩
  · rw [pst_at hi hj]
    cases c : prD h0 h1 (nI d) tr ur with
    | true => rw [c] at hX; exact hX
    | false => rw [c] at hX; exact hX
  · rcases Nat.lt_or_ge z H.size with c | c
    · rw [e1 z c]; exact g4 z hz
    · exact e2 z c
  · show 10 ≤ (ow0 z).1
    rw [← g3 z hz]
    exact hm
theorem PV.in {h0 h1 fx : Dy} {n K d i : Nat} (hd : d ≤ 3000) : ∀ r j (P : PS), PV h0 h1 fx n K P → PV h0 h1 fx n K (pin h0 h1 (nI d) i r j P)
  | 0, _, _, h => h
  | r + 1, j, _, h => PV.in hd r (j + 1) _ (h.st hd)
set_option maxRecDepth 100000 in
set_option maxHeartbeats 4000000 in
/-- press -/
theorem c_xpress (E : ET) (ow : Nat → Nat × Nat) (x : Nat) (h0 h1 fx : Dy) (ts : List TR) (d : Int32) (K KK : Nat) (H : Heap) (hX : XR E ow x h0 h1 fx ts H) (hV : SV h0 h1 fx ts) (hK : BL ts) (hK9 : ∀ tr ∈ ts, tr.2.1.length ≤ K) (hKK : K + (prs h0 h1 d ts).2.2.1 ≤ KK) (hKK5 : KK ≤ 5000) : XCon E yX4_press cX4_press 5 (some FieldType.int) 10 (1 + 4 * (prs h0 h1 d ts).2.2.1) (6 + 2 * (2 + (2 * KK + 10)) * (prs h0 h1 d ts).2.2.1) [.ref x, .int d] H (fun v H' => (inB d 0 3000 = true ∧ v = some (.int (prs h0 h1 d ts).2.1)) ∧ XOut E ow x h0 h1 fx (prs h0 h1 d ts).1 H H') (fun X => X = xA ∧ inB d 0 3000 = false) := by
  refine XCon.of (C := RX4) rfl (by decide +kernel) (Nat.le_of_ble_eq_true rfl) ?_
  intro p e s m below meth co ls hx hb hr hlk hml hown hts hxt hE hH hS hl
  have hl : lv_has ls 5 [(0, .ref x), (1, .int d)] := hl
  have hB : eB E ≤ s.heap.size := by rw [hH]; exact hE.2.1
  have hE0 : EV E s s.heap := by rw [hH]; exact hE
  obtain ⟨q, fd, bk, wa, hX2⟩ := hX.x
  obtain ⟨hC, hD, hL, hT⟩ := hX2.rd hV hK
  have hO := hX2.1
  have hBF := hE.2.2.1
  have htn := hV.tn
  refine lv_iload_n hx hb dX4_press_0 rfl (lv_at hl 1 rfl) ?_
  refine lv_iconst (v := 0) hx hb dX4_press_1 (by decide) ?_
  refine lv_sipush (v := 3000) hx hb dX4_press_2 (by decide) ?_
  refine xSc hx hb hml hlk hxt hts hown hB hE hH hS kwX4_37 (c_crange E d 0 3000 H) (fun _ h => h) (Nat.le_of_ble_eq_true rfl) rfl hl.1 rfl (Nat.le_of_ble_eq_true rfl) (by omega) (by omega) dX4_press_5 (fun v1 H1 L1 ho1 hz1 hE hS => ?_)
  obtain ⟨g1, hv1, hh1⟩ := ho1
  subst hv1
  have hh1 := hh1.symm
  subst hh1
  dsimp only [Option.toList, List.nil_append, List.cons_append]
  obtain ⟨nd, hnd, ed⟩ := inB_nI (n := 3000) g1
  subst ed
  obtain ⟨PF, hPF⟩ : ∃ z, z = prs h0 h1 (nI nd) ts := ⟨_, rfl⟩
  rw [← hPF] at hKK
  rw [← hPF]
  obtain ⟨D, hD9⟩ : ∃ z, z = 2 * (2 + (2 * KK + 10)) := ⟨_, rfl⟩
  rw [← hD9]
  have hP0 : PI E (owx ow H (10, 0)) x q fd bk wa h0 h1 fx ts.length K (ts, 0, 0, []) H H (owx ow H (10, 0)) := ⟨hX2.lab (fun z h9 => owx_old h9), ⟨rfl, hV, fun tr ht => by have := hK9 tr ht; show _ ≤ K + 0; omega⟩, fun _ _ => rfl, fun z hz => by rw [owx_new hz]; exact Nat.le_refl _, FR.rf⟩
  refine lv_iconst (v := 0) hx hb dX4_press_8 (by decide) ?_
  refine lv_istore_n (lv' := [(2, .int 0), (0, .ref x), (1, .int (nI nd))]) hx hb dX4_press_9 rfl hl (by decide) rfl (fun ls hl => ?_)
  refine lv_iconst (v := 0) hx hb dX4_press_10 (by decide) ?_
  refine lv_istore_n (lv' := [(3, .int 0), (2, .int 0), (0, .ref x), (1, .int (nI nd))]) hx hb dX4_press_11 rfl hl (by decide) rfl (fun ls hl => ?_)
  have loop : ∀ (r i : Nat) (P : PS) (G : Heap) (o : Nat → Nat × Nat) (locs : List Loc) (ls : Array Slot), i + r = ts.length → pou h0 h1 (nI nd) ts.length r i P = PF → PI E (owx ow H (10, 0)) x q fd bk wa h0 h1 fx ts.length K P H G o → EV E s G → va_S (fr E) s.heap G locs → lv_has ls 5 [(3, .int (nI i)), (2, .int P.2.1), (0, .ref x), (1, .int (nI nd))] → W p (eL E) e (rmk 10 (1 + 4 * PF.2.2.1) (6 + D * PF.2.2.1)) s m ([.ref x, .int (nI nd)]).toArray below meth co G locs (1 + 4 * P.2.2.1) (6 + D * P.2.2.1) (vx_MQ below (CQ E (fun v H' => (inB (nI nd) 0 3000 = true ∧ v = some (.int PF.2.1)) ∧ XOut E ow x h0 h1 fx PF.1 H H')) (XQ E (fun X => X = xA ∧ inB (nI nd) 0 3000 = false)) ([.ref x, .int (nI nd)]).toArray s (1 + 4 * PF.2.2.1) (6 + D * PF.2.2.1) (fr E)) (F0 m 12 ls []) := by
    intro r
    induction r with
    | zero =>
      intro i P G o locs ls hi hpf hJ hE hS hl
      obtain ⟨hXg, hPv, ho1, ho2, hFg⟩ := id hJ
      have hln := hPv.1
      have hO := hXg.1
      have hL0 := hXg.2.2.2.1
      rw [hln] at hL0
      have hL := hL0.LR (by omega)
      obtain ⟨fs0, hOb, hcl⟩ := hL.ob
      have hi2 : i = ts.length := by omega
      have hpf : P = PF := hpf
      have hq1 : 1 + 4 * P.2.2.1 ≤ 1 + 4 * PF.2.2.1 := by rw [hpf]; exact Nat.le_refl _
      have hq2 : 6 + D * P.2.2.1 ≤ 6 + D * PF.2.2.1 := by rw [hpf]; exact Nat.le_refl _
      refine lv_iload_n hx hb dX4_press_12 rfl (lv_at hl 0 rfl) ?_
      refine lv_aload_n hx hb dX4_press_13 rfl (lv_at hl 2 rfl) ?_
      refine gf hx hb hts hown hE lkX4_26 hO rfl dX4_press_14 ?_
      refine pV hx hb hml hts hown hE kwX4_85 (c_size E bk ts.length wa G hL) hOb rfl (Nat.le_of_ble_eq_true rfl) rfl hl.1 rfl (Nat.le_of_ble_eq_true rfl) (by omega) (by omega) dX4_press_17 ?_
      refine lv_icmp_ge (tgt := 82) hx hb dX4_press_20 (by decide) (fun c9 => ?_) (fun c9 => ?_)
      rotate_left
      · exact absurd (nI_le (by omega) (by omega)) c9
      refine lv_iload_n hx hb dX4_press_82 rfl (lv_at hl 1 rfl) ?_
      have hgz := hFg.1
      exact vx_ret (cI hx hb hr hlk hB hS hq1 hq2 (⟨⟨g1, by rw [hpf]⟩, o, fun z h9 => by rw [ho1 z h9, owx_old h9], fun z h9 => by have := ho2 z h9; omega, by rw [← hpf]; exact hXg.R, ⟨hgz, fun z h9 h8 => hFg.2 z h9 (by show ¬ 10 ≤ (owx ow H (10, 0) z).1; rw [owx_old h9]; have h8 : ¬ (ow z).1 ≠ 4 := h8; omega)⟩⟩) dX4_press_83)
    | succ r ih =>
      intro i P G o locs ls hi hpf hJ hE hS hl
      have hlt : i < ts.length := by omega
      obtain ⟨hXg, hPv, ho1, ho2, hFg⟩ := id hJ
      have hln := hPv.1
      have hO := hXg.1
      have hL0 := hXg.2.2.2.1
      rw [hln] at hL0
      have hL := hL0.LR (by omega)
      obtain ⟨fs0, hOb, hcl⟩ := hL.ob
      have hq1 : P.2.2.1 ≤ PF.2.2.1 := by rw [← hpf]; exact pou_mono h0 h1 (nI nd) ts.length (r + 1) i P
      have hq2 := Nat.mul_le_mul_left D hq1
      refine lv_iload_n hx hb dX4_press_12 rfl (lv_at hl 0 rfl) ?_
      refine lv_aload_n hx hb dX4_press_13 rfl (lv_at hl 2 rfl) ?_
      refine gf hx hb hts hown hE lkX4_26 hO rfl dX4_press_14 ?_
      refine pV hx hb hml hts hown hE kwX4_85 (c_size E bk ts.length wa G hL) hOb rfl (Nat.le_of_ble_eq_true rfl) rfl hl.1 rfl (Nat.le_of_ble_eq_true rfl) (by omega) (by omega) dX4_press_17 ?_
      refine lv_icmp_ge (tgt := 82) hx hb dX4_press_20 (by decide) (fun c9 => ?_) (fun c9 => ?_)
      · exact absurd c9 (nI_ge hlt (by omega))
      refine lv_iload_n hx hb dX4_press_23 rfl (lv_at hl 0 rfl) ?_
      refine lv_iconst (v := 1) hx hb dX4_press_24 (by decide) ?_
      refine lv_iadd hx hb dX4_press_25 ?_
      rw [show nI i + 1 = nI (i + 1) from nI_1 i]
      refine lv_istore (lv' := [(4, .int (nI (i + 1))), (3, .int (nI i)), (2, .int P.2.1), (0, .ref x), (1, .int (nI nd))]) hx hb dX4_press_26 hl (by decide) rfl (fun ls hl => ?_)
      have hpf2 : pou h0 h1 (nI nd) ts.length r (i + 1) (pin h0 h1 (nI nd) i (ts.length - (i + 1)) (i + 1) P) = PF := hpf
      generalize hPE : pin h0 h1 (nI nd) i (ts.length - (i + 1)) (i + 1) P = PE at hpf2
      have hcE : PE.2.2.1 ≤ PF.2.2.1 := by rw [← hpf2]; exact pou_mono h0 h1 (nI nd) ts.length r (i + 1) PE
      clear hpf hXg hPv ho1 ho2 hFg hO hL0 hL hOb hln
      have loop2 : ∀ (u j : Nat) (P : PS) (G : Heap) (o : Nat → Nat × Nat) (locs : List Loc) (ls : Array Slot), i < j → j + u = ts.length → pin h0 h1 (nI nd) i u j P = PE → PI E (owx ow H (10, 0)) x q fd bk wa h0 h1 fx ts.length K P H G o → EV E s G → va_S (fr E) s.heap G locs → lv_has ls 5 [(4, .int (nI j)), (3, .int (nI i)), (2, .int P.2.1), (0, .ref x), (1, .int (nI nd))] → W p (eL E) e (rmk 10 (1 + 4 * PF.2.2.1) (6 + D * PF.2.2.1)) s m ([.ref x, .int (nI nd)]).toArray below meth co G locs (1 + 4 * P.2.2.1) (6 + D * P.2.2.1) (vx_MQ below (CQ E (fun v H' => (inB (nI nd) 0 3000 = true ∧ v = some (.int PF.2.1)) ∧ XOut E ow x h0 h1 fx PF.1 H H')) (XQ E (fun X => X = xA ∧ inB (nI nd) 0 3000 = false)) ([.ref x, .int (nI nd)]).toArray s (1 + 4 * PF.2.2.1) (6 + D * PF.2.2.1) (fr E)) (F0 m 28 ls []) := by
        intro u
        induction u with
        | zero =>
          intro j P G o locs ls hij hj hpe hJ hE hS hl
          obtain ⟨hXg, hPv, ho1, ho2, hFg⟩ := id hJ
          have hln := hPv.1
          have hO := hXg.1
          have hL0 := hXg.2.2.2.1
          rw [hln] at hL0
          have hL := hL0.LR (by omega)
          obtain ⟨fs0, hOb, hcl⟩ := hL.ob
          have hj2 : j = ts.length := by omega
          have hpe : P = PE := hpe
          have hq1 : P.2.2.1 ≤ PF.2.2.1 := by rw [hpe]; exact hcE
          have hq2 := Nat.mul_le_mul_left D hq1
          refine lv_iload hx hb dX4_press_28 (lv_at hl 0 rfl) ?_
          refine lv_aload_n hx hb dX4_press_30 rfl (lv_at hl 3 rfl) ?_
          refine gf hx hb hts hown hE lkX4_26 hO rfl dX4_press_31 ?_
          refine pV hx hb hml hts hown hE kwX4_85 (c_size E bk ts.length wa G hL) hOb rfl (Nat.le_of_ble_eq_true rfl) rfl hl.1 rfl (Nat.le_of_ble_eq_true rfl) (by omega) (by omega) dX4_press_34 ?_
          refine lv_icmp_ge (tgt := 76) hx hb dX4_press_37 (by decide) (fun c8 => ?_) (fun c8 => ?_)
          rotate_left
          · exact absurd (nI_le (by omega) (by omega)) c8
          refine lv_iinc (v := nI (i + 1)) (lv' := [(3, .int (nI (i + 1))), (4, .int (nI j)), (2, .int P.2.1), (0, .ref x), (1, .int (nI nd))]) hx hb dX4_press_76 hl (k := 1) rfl (nI_1 i) (by decide) rfl (fun ls hl => ?_)
          refine lv_goto (tgt := 12) hx hb dX4_press_79 (by decide) ?_
          exact ih (i + 1) P G o locs ls (by omega) (by rw [hpe]; exact hpf2) hJ hE hS (lv_sub hl [0, 2, 3, 4] rfl)
        | succ u ih2 =>
          intro j P G o locs ls hij hj hpe hJ hE hS hl
          obtain ⟨hXg, hPv, ho1, ho2, hFg⟩ := id hJ
          have hln := hPv.1
          have hO := hXg.1
          have hL0 := hXg.2.2.2.1
          rw [hln] at hL0
          have hL := hL0.LR (by omega)
          obtain ⟨fs0, hOb, hcl⟩ := hL.ob
          have hjl : j < ts.length := by omega
          obtain ⟨tr, ht⟩ := getq (l := P.1) (i := i) (by omega)
          obtain ⟨ur, hu⟩ := getq (l := P.1) (i := j) (by omega)
          obtain ⟨db, dh, bd, hW0, -⟩ := hXg.2.2.2.2.1 i tr ht
          obtain ⟨dc, di, be, hU0, -⟩ := hXg.2.2.2.2.1 j ur hu
          have hpe2 : pin h0 h1 (nI nd) i u (j + 1) (pst h0 h1 (nI nd) i j P) = PE := hpe
          have hcS : (pst h0 h1 (nI nd) i j P).2.2.1 ≤ PE.2.2.1 := by rw [← hpe2]; exact pin_mono h0 h1 (nI nd) i u (j + 1) _
          have hcP := pst_mono h0 h1 (nI nd) i j P
          have hq1 : P.2.2.1 ≤ PF.2.2.1 := by omega
          have hq2 := Nat.mul_le_mul_left D hq1
          have hKt : ∀ tr ∈ P.1, tr.2.1.length ≤ KK := fun z hz => by have := hPv.2.2 z hz; omega
          refine lv_iload hx hb dX4_press_28 (lv_at hl 0 rfl) ?_
          refine lv_aload_n hx hb dX4_press_30 rfl (lv_at hl 3 rfl) ?_
          refine gf hx hb hts hown hE lkX4_26 hO rfl dX4_press_31 ?_
          refine pV hx hb hml hts hown hE kwX4_85 (c_size E bk ts.length wa G hL) hOb rfl (Nat.le_of_ble_eq_true rfl) rfl hl.1 rfl (Nat.le_of_ble_eq_true rfl) (by omega) (by omega) dX4_press_34 ?_
          refine lv_icmp_ge (tgt := 76) hx hb dX4_press_37 (by decide) (fun c8 => ?_) (fun c8 => ?_)
          · exact absurd c8 (nI_ge hjl (by omega))
          refine lv_iload_n hx hb dX4_press_40 rfl (lv_at hl 2 rfl) ?_
          refine lv_aload_n hx hb dX4_press_41 rfl (lv_at hl 3 rfl) ?_
          refine gf hx hb hts hown hE lkX4_26 hO rfl dX4_press_42 ?_
          refine lv_iload_n hx hb dX4_press_45 rfl (lv_at hl 1 rfl) ?_
          refine pV hx hb hml hts hown hE kwX4_134 (c_get E bk ts.length i wa G hL hlt) hOb rfl (Nat.le_of_ble_eq_true rfl) rfl hl.1 rfl (Nat.le_of_ble_eq_true rfl) (by omega) (by omega) dX4_press_46 ?_
          refine cst hx hb hts hown hE qw2_74 hW0 rfl dX4_press_49 ?_
          refine lv_aload_n hx hb dX4_press_52 rfl (lv_at hl 3 rfl) ?_
          refine gf hx hb hts hown hE lkX4_26 hO rfl dX4_press_53 ?_
          refine lv_iload hx hb dX4_press_56 (lv_at hl 0 rfl) ?_
          refine pV hx hb hml hts hown hE kwX4_134 (c_get E bk ts.length j wa G hL hjl) hOb rfl (Nat.le_of_ble_eq_true rfl) rfl hl.1 rfl (Nat.le_of_ble_eq_true rfl) (by omega) (by omega) dX4_press_58 ?_
          refine cst hx hb hts hown hE qw2_74 hU0 rfl dX4_press_61 ?_
          refine lv_iload_n hx hb dX4_press_64 rfl (lv_at hl 4 rfl) ?_
          have hst := pst_at (h0 := h0) (h1 := h1) (day := nI nd) ht hu
          have hmulE : D * PE.2.2.1 ≤ D * PF.2.2.1 := Nat.mul_le_mul_left D hcE
          have hmulS := Nat.mul_le_mul_left D hcS
          cases cp : prD h0 h1 (nI nd) tr ur with
          | true =>
            rw [cp] at hst
            have hcn : (pst h0 h1 (nI nd) i j P).2.2.1 = P.2.2.1 + 1 := by rw [hst]; rfl
            have hsn : (pst h0 h1 (nI nd) i j P).2.1 = P.2.1 + mnR tr ur := by rw [hst]; rfl
            have hms : D * (P.2.2.1 + 1) = D * P.2.2.1 + D := Nat.mul_succ _ _
            rw [hcn] at hmulS hcS
            rw [hms] at hmulS
            refine gS hx hb hml hts hown hB hE hS kwX4_138 (c_ppair E o x q fd bk wa h0 h1 fx P.1 i j tr ur (nI nd) KK 4 D G hXg hPv.2.1 ht hu (by omega) hKt hKK5 (by intro _; constructor <;> omega)) (Nat.le_of_ble_eq_true rfl) rfl hl.1 rfl (Nat.le_of_ble_eq_true rfl) (by omega) (by omega) dX4_press_65 (fun H2 L2 hG hz2 hE hS => ?_)
            obtain ⟨o2, e1, e2, hXn, hFn⟩ := hG
            have hJ2 := hJ.st hnd ht hu e1 e2 hXn hFn
            rw [show (if prD h0 h1 (nI nd) tr ur = true then mnR tr ur else 0) = mnR tr ur by rw [cp]; rfl]
            refine lv_iadd hx hb dX4_press_68 ?_
            rw [← hsn]
            refine lv_istore_n (lv' := [(2, .int ((pst h0 h1 (nI nd) i j P).2.1)), (4, .int (nI j)), (3, .int (nI i)), (0, .ref x), (1, .int (nI nd))]) hx hb dX4_press_69 rfl hl (by decide) rfl (fun ls hl => ?_)
            refine lv_iinc (v := nI (j + 1)) (lv' := [(4, .int (nI (j + 1))), (2, .int ((pst h0 h1 (nI nd) i j P).2.1)), (3, .int (nI i)), (0, .ref x), (1, .int (nI nd))]) hx hb dX4_press_70 hl (k := 1) rfl (nI_1 j) (by decide) rfl (fun ls hl => ?_)
            refine lv_goto (tgt := 28) hx hb dX4_press_73 (by decide) ?_
            rw [show 1 + 4 * P.2.2.1 + 4 = 1 + 4 * (pst h0 h1 (nI nd) i j P).2.2.1 by rw [hcn]; omega, show 6 + D * P.2.2.1 + D = 6 + D * (pst h0 h1 (nI nd) i j P).2.2.1 by rw [hcn, hms]; omega]
            exact ih2 (j + 1) (pst h0 h1 (nI nd) i j P) H2 o2 L2 ls (by omega) (by omega) hpe2 hJ2 hE hS (lv_sub hl [0, 2, 1, 3, 4] rfl)
          | false =>
            rw [cp] at hst
            have hcn : (pst h0 h1 (nI nd) i j P).2.2.1 = P.2.2.1 := by rw [hst]; rfl
            have hsn : (pst h0 h1 (nI nd) i j P).2.1 = P.2.1 + 0 := by rw [hst]; exact (Int32.add_zero _).symm
            rw [hcn] at hmulS hcS
            refine gS hx hb hml hts hown hB hE hS kwX4_138 (c_ppair E o x q fd bk wa h0 h1 fx P.1 i j tr ur (nI nd) KK 0 0 G hXg hPv.2.1 ht hu (by omega) hKt hKK5 (by rw [cp]; intro h; cases h)) (Nat.le_of_ble_eq_true rfl) rfl hl.1 rfl (Nat.le_of_ble_eq_true rfl) (by omega) (by omega) dX4_press_65 (fun H2 L2 hG hz2 hE hS => ?_)
            obtain ⟨o2, e1, e2, hXn, hFn⟩ := hG
            have hJ2 := hJ.st hnd ht hu e1 e2 hXn hFn
            rw [show (if prD h0 h1 (nI nd) tr ur = true then mnR tr ur else 0) = 0 by rw [cp]; rfl]
            refine lv_iadd hx hb dX4_press_68 ?_
            rw [← hsn]
            refine lv_istore_n (lv' := [(2, .int ((pst h0 h1 (nI nd) i j P).2.1)), (4, .int (nI j)), (3, .int (nI i)), (0, .ref x), (1, .int (nI nd))]) hx hb dX4_press_69 rfl hl (by decide) rfl (fun ls hl => ?_)
            refine lv_iinc (v := nI (j + 1)) (lv' := [(4, .int (nI (j + 1))), (2, .int ((pst h0 h1 (nI nd) i j P).2.1)), (3, .int (nI i)), (0, .ref x), (1, .int (nI nd))]) hx hb dX4_press_70 hl (k := 1) rfl (nI_1 j) (by decide) rfl (fun ls hl => ?_)
            refine lv_goto (tgt := 28) hx hb dX4_press_73 (by decide) ?_
            rw [show 1 + 4 * P.2.2.1 + 0 = 1 + 4 * (pst h0 h1 (nI nd) i j P).2.2.1 by rw [hcn]; rfl, show 6 + D * P.2.2.1 + 0 = 6 + D * (pst h0 h1 (nI nd) i j P).2.2.1 by rw [hcn]; rfl]
            exact ih2 (j + 1) (pst h0 h1 (nI nd) i j P) H2 o2 L2 ls (by omega) (by omega) hpe2 hJ2 hE hS (lv_sub hl [0, 2, 1, 3, 4] rfl)
      exact loop2 (ts.length - (i + 1)) (i + 1) P G o locs ls (by omega) (by omega) hPE hJ hE hS (lv_sub hl [0, 1, 2, 3, 4] rfl)
  exact loop ts.length 0 (ts, 0, 0, []) H (owx ow H (10, 0)) L1 ls (by omega) hPF.symm hP0 hE hS (lv_sub hl [0, 1, 2, 3] rfl)
