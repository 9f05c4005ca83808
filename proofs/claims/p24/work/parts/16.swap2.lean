theorem smpS_no {T U : Nat → Int32} {hs hu : Dy} {bf : Nat → Int32} {day : Int32} {i : Nat} (c : bf i < day) : smpS T U hs hu bf day (i + 1) = smpS T U hs hu bf day i := by
  simp only [smpS]
  rw [if_neg (Int32.not_le.mpr c)]
theorem smpS_yes {T U : Nat → Int32} {hs hu : Dy} {bf : Nat → Int32} {day : Int32} {i : Nat} (c : ¬ bf i < day) : smpS T U hs hu bf day (i + 1) = (true, (smpS T U hs hu bf day i).2 && decide (hldS T hs (bf (i + 1)) = hldS U hu (bf (i + 1)))) := by
  simp only [smpS]
  rw [if_pos (Int32.not_lt.mp c)]
set_option maxRecDepth 100000 in
set_option maxHeartbeats 4000000 in
/-- Swap.fits -/
theorem c_fits (E : ET) (w x : Nat) (T U : Nat → Int32) (db dh bd dc di be : Nat) (H : Heap) (hO : OB E 4 (tfs T db dh bd) w H) (hU : OB E 4 (tfs U dc di be) x H) : PCon E yX3_fits cX3_fits 2 (some FieldType.boolean) 1 [.ref w, .ref x] H (some (.int (if fitS T U then 1 else 0))) := by
  refine PCon.of (C := RX3) rfl (by decide +kernel) (Nat.le_of_ble_eq_true rfl) ?_
  intro p e s m below meth co ls hx hb hr hlk hml hown hts hE hH hl
  have hl : lv_has ls 2 [(0, .ref w), (1, .ref x)] := hl
  refine lv_aload_n hx hb dX3_fits_0 rfl (lv_at hl 0 rfl) ?_
  refine gf hx hb hts hown hE lkX3_18 hO rfl dX3_fits_1 ?_
  refine lv_aload_n hx hb dX3_fits_4 rfl (lv_at hl 1 rfl) ?_
  refine gf hx hb hts hown hE lkX3_18 hU rfl dX3_fits_5 ?_
  refine lv_icmp_eq (tgt := 92) hx hb dX3_fits_8 (by decide) (fun c2 => ?_) (fun c2 => ?_)
  · refine lv_iconst (v := 0) hx hb dX3_fits_92 (by decide) ?_
    exact pZ hx hb hr hlk hH (by simp [fitS, c2]) dX3_fits_93
  · refine lv_aload_n hx hb dX3_fits_11 rfl (lv_at hl 0 rfl) ?_
    refine gf hx hb hts hown hE lkX3_22 hO rfl dX3_fits_12 ?_
    refine lv_aload_n hx hb dX3_fits_15 rfl (lv_at hl 1 rfl) ?_
    refine gf hx hb hts hown hE lkX3_22 hU rfl dX3_fits_16 ?_
    refine lv_icmp_ne (tgt := 92) hx hb dX3_fits_19 (by decide) (fun c3 => ?_) (fun c3 => ?_)
    · refine lv_iconst (v := 0) hx hb dX3_fits_92 (by decide) ?_
      exact pZ hx hb hr hlk hH (by simp [fitS, c2, c3]) dX3_fits_93
    · refine lv_aload_n hx hb dX3_fits_22 rfl (lv_at hl 0 rfl) ?_
      refine gf hx hb hts hown hE lkX3_34 hO rfl dX3_fits_23 ?_
      refine lv_aload_n hx hb dX3_fits_26 rfl (lv_at hl 1 rfl) ?_
      refine gf hx hb hts hown hE lkX3_34 hU rfl dX3_fits_27 ?_
      refine lv_icmp_ne (tgt := 92) hx hb dX3_fits_30 (by decide) (fun c7 => ?_) (fun c7 => ?_)
      · refine lv_iconst (v := 0) hx hb dX3_fits_92 (by decide) ?_
        exact pZ hx hb hr hlk hH (by simp [fitS, c2, c3, c7]) dX3_fits_93
      · refine lv_aload_n hx hb dX3_fits_33 rfl (lv_at hl 0 rfl) ?_
        refine gf hx hb hts hown hE lkX3_25 hO rfl dX3_fits_34 ?_
        refine lv_aload_n hx hb dX3_fits_37 rfl (lv_at hl 1 rfl) ?_
        refine gf hx hb hts hown hE lkX3_25 hU rfl dX3_fits_38 ?_
        refine lv_icmp_ne (tgt := 92) hx hb dX3_fits_41 (by decide) (fun c4 => ?_) (fun c4 => ?_)
        · refine lv_iconst (v := 0) hx hb dX3_fits_92 (by decide) ?_
          exact pZ hx hb hr hlk hH (by simp [fitS, c2, c3, c7, c4]) dX3_fits_93
        · refine lv_aload_n hx hb dX3_fits_44 rfl (lv_at hl 0 rfl) ?_
          refine gf hx hb hts hown hE lkX3_28 hO rfl dX3_fits_45 ?_
          refine lv_aload_n hx hb dX3_fits_48 rfl (lv_at hl 1 rfl) ?_
          refine gf hx hb hts hown hE lkX3_28 hU rfl dX3_fits_49 ?_
          refine lv_icmp_ne (tgt := 92) hx hb dX3_fits_52 (by decide) (fun c5 => ?_) (fun c5 => ?_)
          · refine lv_iconst (v := 0) hx hb dX3_fits_92 (by decide) ?_
            exact pZ hx hb hr hlk hH (by simp [fitS, c2, c3, c7, c4, c5]) dX3_fits_93
          · refine lv_aload_n hx hb dX3_fits_55 rfl (lv_at hl 0 rfl) ?_
            refine gf hx hb hts hown hE lkX3_31 hO rfl dX3_fits_56 ?_
            refine lv_aload_n hx hb dX3_fits_59 rfl (lv_at hl 1 rfl) ?_
            refine gf hx hb hts hown hE lkX3_31 hU rfl dX3_fits_60 ?_
            refine lv_icmp_ne (tgt := 92) hx hb dX3_fits_63 (by decide) (fun c6 => ?_) (fun c6 => ?_)
            · refine lv_iconst (v := 0) hx hb dX3_fits_92 (by decide) ?_
              exact pZ hx hb hr hlk hH (by simp [fitS, c2, c3, c7, c4, c5, c6]) dX3_fits_93
            · refine lv_aload_n hx hb dX3_fits_66 rfl (lv_at hl 0 rfl) ?_
              refine gf hx hb hts hown hE lkX3_37 hO rfl dX3_fits_67 ?_
              refine lv_aload_n hx hb dX3_fits_70 rfl (lv_at hl 1 rfl) ?_
              refine gf hx hb hts hown hE lkX3_37 hU rfl dX3_fits_71 ?_
              refine lv_icmp_ne (tgt := 92) hx hb dX3_fits_74 (by decide) (fun c8 => ?_) (fun c8 => ?_)
              · refine lv_iconst (v := 0) hx hb dX3_fits_92 (by decide) ?_
                exact pZ hx hb hr hlk hH (by simp [fitS, c2, c3, c7, c4, c5, c6, c8]) dX3_fits_93
              · refine lv_aload_n hx hb dX3_fits_77 rfl (lv_at hl 0 rfl) ?_
                refine gf hx hb hts hown hE lkX3_40 hO rfl dX3_fits_78 ?_
                refine lv_aload_n hx hb dX3_fits_81 rfl (lv_at hl 1 rfl) ?_
                refine gf hx hb hts hown hE lkX3_40 hU rfl dX3_fits_82 ?_
                refine lv_icmp_ne (tgt := 92) hx hb dX3_fits_85 (by decide) (fun c9 => ?_) (fun c9 => ?_)
                · refine lv_iconst (v := 0) hx hb dX3_fits_92 (by decide) ?_
                  exact pZ hx hb hr hlk hH (by simp [fitS, c2, c3, c7, c4, c5, c6, c8, c9]) dX3_fits_93
                · refine lv_iconst (v := 1) hx hb dX3_fits_88 (by decide) ?_
                  refine lv_goto (tgt := 93) hx hb dX3_fits_89 (by decide) ?_
                  exact pZ hx hb hr hlk hH (by simp [fitS, c2, c3, c7, c4, c5, c6, c8, c9]) dX3_fits_93

set_option maxRecDepth 100000 in
set_option maxHeartbeats 4000000 in
/-- Swap.isOfSamePartyFrom -/
theorem c_same (E : ET) (w : Nat) (T : Nat → Int32) (db dh bd : Nat) (bf : Nat → Int32) (bs hs : Dy) (x np : Nat) (U : Nat → Int32) (dc di be : Nat) (bg : Nat → Int32) (bu hu : Dy) (day : Int32) (H : Heap) (hn : T 6 = nI np) (hnp : np ≤ 10) (h : SRx E w T db dh bd bf bs hs H) (hU : SRx E x U dc di be bg bu hu H) : PCon E yX3_isOfSamePartyFrom cX3_isOfSamePartyFrom 6 (some FieldType.boolean) 6 [.ref w, .int day, .ref x] H (some (.int (if smeS T U hs hu bf day np then 1 else 0))) := by
  refine PCon.of (C := RX3) rfl (by decide +kernel) (Nat.le_of_ble_eq_true rfl) ?_
  intro p e s m below meth co ls hx hb hr hlk hml hown hts hE hH hl
  have hl : lv_has ls 6 [(0, .ref w), (1, .int day), (2, .ref x)] := hl
  obtain ⟨hO, hB, hHd, hA⟩ := id h
  obtain ⟨hOU, hBU, hHU, hAU⟩ := id hU
  refine lv_iconst (v := 0) hx hb dX3_isOfSamePartyFrom_0 (by decide) ?_
  refine lv_istore_n (lv' := [(3, .int 0), (0, .ref w), (1, .int day), (2, .ref x)]) hx hb dX3_isOfSamePartyFrom_1 rfl hl (by decide) rfl (fun ls hl => ?_)
  refine lv_iconst (v := 0) hx hb dX3_isOfSamePartyFrom_2 (by decide) ?_
  refine lv_istore (lv' := [(4, .int 0), (3, .int 0), (0, .ref w), (1, .int day), (2, .ref x)]) hx hb dX3_isOfSamePartyFrom_3 hl (by decide) rfl (fun ls hl => ?_)
  have loop : ∀ (n i : Nat) (ls : Array Slot), i + n = np → (smpS T U hs hu bf day i).2 = true → lv_has ls 6 [(4, .int (nI i)), (3, .int (if (smpS T U hs hu bf day i).1 then 1 else 0)), (0, .ref w), (1, .int day), (2, .ref x)] → W p (eL E) e (rmk 6 0 0) s m ([.ref w, .int day, .ref x]).toArray below meth co H [] 0 0 (MQ below (PQ (some (.int (if smeS T U hs hu bf day np then 1 else 0)))) ([.ref w, .int day, .ref x]).toArray s 0 0 (fun _ => False)) (F0 m 5 ls []) := by
    intro n
    induction n with
    | zero =>
      intro i ls hi ha hl
      have hi2 : i = np := by omega
      subst hi2
      refine lv_iload hx hb dX3_isOfSamePartyFrom_5 (lv_at hl 0 rfl) ?_
      refine lv_aload_n hx hb dX3_isOfSamePartyFrom_7 rfl (lv_at hl 2 rfl) ?_
      refine gf hx hb hts hown hE lkX3_31 hO rfl dX3_isOfSamePartyFrom_8 ?_
      refine lv_icmp_ge (tgt := 57) hx hb dX3_isOfSamePartyFrom_11 (by decide) (fun c => ?_) (fun c => ?_)
      rotate_left
      · exact absurd (by rw [hn]; exact nI_le (Nat.le_refl _) (by omega)) c
      refine lv_iload_n hx hb dX3_isOfSamePartyFrom_57 rfl (lv_at hl 1 rfl) ?_
      exact pZ hx hb hr hlk hH (by simp [smeS, ha]) dX3_isOfSamePartyFrom_58
    | succ n ih =>
      intro i ls hi ha hl
      refine lv_iload hx hb dX3_isOfSamePartyFrom_5 (lv_at hl 0 rfl) ?_
      refine lv_aload_n hx hb dX3_isOfSamePartyFrom_7 rfl (lv_at hl 2 rfl) ?_
      refine gf hx hb hts hown hE lkX3_31 hO rfl dX3_isOfSamePartyFrom_8 ?_
      refine lv_icmp_ge (tgt := 57) hx hb dX3_isOfSamePartyFrom_11 (by decide) (fun c => ?_) (fun c => ?_)
      · exact absurd c (by rw [hn]; exact nI_ge (by omega) (by omega))
      refine lv_aload_n hx hb dX3_isOfSamePartyFrom_14 rfl (lv_at hl 2 rfl) ?_
      refine lv_iload hx hb dX3_isOfSamePartyFrom_15 (lv_at hl 0 rfl) ?_
      refine pV hx hb hml hts hown hE kwX3_63 (c_start E w T db dh bd bf bs hs i H (by omega) h) hO rfl (Nat.le_of_ble_eq_true rfl) rfl hl.1 rfl (Nat.le_of_ble_eq_true rfl) (Nat.le_refl _) (Nat.le_refl _) dX3_isOfSamePartyFrom_17 ?_
      refine lv_iload_n hx hb dX3_isOfSamePartyFrom_20 rfl (lv_at hl 3 rfl) ?_
      refine lv_icmp_lt (tgt := 51) hx hb dX3_isOfSamePartyFrom_21 (by decide) (fun c1 => ?_) (fun c1 => ?_)
      · refine lv_iinc (v := nI (i + 1)) (lv' := [(4, .int (nI (i + 1))), (3, .int (if (smpS T U hs hu bf day i).1 then 1 else 0)), (0, .ref w), (1, .int day), (2, .ref x)]) hx hb dX3_isOfSamePartyFrom_51 hl (k := 0) rfl (nI_1 i) (by decide) rfl (fun ls hl => ?_)
        refine lv_goto (tgt := 5) hx hb dX3_isOfSamePartyFrom_54 (by decide) ?_
        exact ih (i + 1) ls (by omega) (by rw [smpS_no c1]; exact ha) (by
          have e : (if (smpS T U hs hu bf day (i + 1)).1 then (1 : Int32) else 0) = (if (smpS T U hs hu bf day i).1 then 1 else 0) := by rw [smpS_no c1]
          rw [e]
          exact (lv_sub hl [0, 1, 2, 3, 4] rfl))
      · refine lv_iconst (v := 1) hx hb dX3_isOfSamePartyFrom_24 (by decide) ?_
        refine lv_istore_n (lv' := [(3, .int 1), (4, .int (nI i)), (0, .ref w), (1, .int day), (2, .ref x)]) hx hb dX3_isOfSamePartyFrom_25 rfl hl (by decide) rfl (fun ls hl => ?_)
        refine lv_aload_n hx hb dX3_isOfSamePartyFrom_26 rfl (lv_at hl 2 rfl) ?_
        refine lv_iload hx hb dX3_isOfSamePartyFrom_27 (lv_at hl 1 rfl) ?_
        refine pV hx hb hml hts hown hE kwX3_95 (c_end E w T db dh bd bf bs hs i H (by omega) h) hO rfl (Nat.le_of_ble_eq_true rfl) rfl hl.1 rfl (Nat.le_of_ble_eq_true rfl) (Nat.le_refl _) (Nat.le_refl _) dX3_isOfSamePartyFrom_29 ?_
        refine lv_istore (lv' := [(5, .int (bf (i + 1))), (3, .int 1), (4, .int (nI i)), (0, .ref w), (1, .int day), (2, .ref x)]) hx hb dX3_isOfSamePartyFrom_32 hl (by decide) rfl (fun ls hl => ?_)
        refine lv_aload_n hx hb dX3_isOfSamePartyFrom_34 rfl (lv_at hl 3 rfl) ?_
        refine lv_iload hx hb dX3_isOfSamePartyFrom_35 (lv_at hl 0 rfl) ?_
        refine pV hx hb hml hts hown hE kwX3_98 (c_hold E w T db dh bd bf bs hs (bf (i + 1)) H h) hO rfl (Nat.le_of_ble_eq_true rfl) rfl hl.1 rfl (Nat.le_of_ble_eq_true rfl) (Nat.le_refl _) (Nat.le_refl _) dX3_isOfSamePartyFrom_37 ?_
        refine lv_aload_n hx hb dX3_isOfSamePartyFrom_40 rfl (lv_at hl 5 rfl) ?_
        refine lv_iload hx hb dX3_isOfSamePartyFrom_41 (lv_at hl 0 rfl) ?_
        refine pV hx hb hml hts hown hE kwX3_98 (c_hold E x U dc di be bg bu hu (bf (i + 1)) H hU) hOU rfl (Nat.le_of_ble_eq_true rfl) rfl hl.1 rfl (Nat.le_of_ble_eq_true rfl) (Nat.le_refl _) (Nat.le_refl _) dX3_isOfSamePartyFrom_43 ?_
        refine lv_icmp_eq (tgt := 51) hx hb dX3_isOfSamePartyFrom_46 (by decide) (fun c2 => ?_) (fun c2 => ?_)
        · refine lv_iinc (v := nI (i + 1)) (lv' := [(4, .int (nI (i + 1))), (5, .int (bf (i + 1))), (3, .int 1), (0, .ref w), (1, .int day), (2, .ref x)]) hx hb dX3_isOfSamePartyFrom_51 hl (k := 2) rfl (nI_1 i) (by decide) rfl (fun ls hl => ?_)
          refine lv_goto (tgt := 5) hx hb dX3_isOfSamePartyFrom_54 (by decide) ?_
          exact ih (i + 1) ls (by omega) (by rw [smpS_yes c1]; simp [ha, c2]) (by
            have e : (if (smpS T U hs hu bf day (i + 1)).1 then (1 : Int32) else 0) = 1 := by rw [smpS_yes c1]; rfl
            rw [e]
            exact (lv_sub hl [0, 2, 3, 4, 5] rfl))
        · refine lv_iconst (v := 0) hx hb dX3_isOfSamePartyFrom_49 (by decide) ?_
          have hf : (smpS T U hs hu bf day (i + 1)).2 = false := by rw [smpS_yes c1]; simp [c2]
          exact pZ hx hb hr hlk hH (by simp [smeS, smpS_f hf np (by omega)]) dX3_isOfSamePartyFrom_50
  exact loop np 0 ls (by omega) rfl (lv_sub hl [0, 1, 2, 3, 4] rfl)
