theorem nkL_9 : NK RL 9 RX4 TX4 3 5 tyX4 := ⟨iwX4, rfl, qw1_21, qw1_22, qw1_1, tyX4_ok⟩
theorem sv_nil : SV [] [] [] [] := ⟨Nat.zero_le _, Nat.zero_le _, fun x h => (by cases h), fun x h => (by cases h), fun x h => (by cases h), Nat.zero_le _, List.Pairwise.nil, Nat.zero_le _, fun tr h => (by cases h)⟩
theorem gi_nil : GI [] [] [] [] (fun _ => 0) (fun _ => 0) (fun _ => 0) (fun _ => 0) 0 := ⟨⟨sv_nil, fun t tr h => (by cases h), fun t _ _ => rfl, ⟨rfl, rfl, fun y h => (by cases h), fun y h => (by cases h)⟩, Nat.le_refl _, fun tr h => (by cases h)⟩, fun t tr h => (by cases h)⟩
set_option maxRecDepth 100000 in
set_option maxHeartbeats 4000000 in
/-- THE LAW, from its entry -/
theorem whole_start {p : Program} {e : Env} {s : State} {m : MethodId} {below : List Frame} {meth : Method} {c : Code} (l : Launch) (hflags : l.flags = flags0) {b L : Nat} {xs : Nat → Int32} (hL : L ≤ 260) (C0 : lw_At p s m meth c b L xs) : W p l e room_1 s m #[Value.ref b] below meth c s.heap [] 0 0 (lw_Z below #[Value.ref b] s) (entryFrame m ([Value.ref b] : List Value).toArray 16) := by
  obtain ⟨E, hl9, hBE, hE⟩ := ev_start l hflags C0
  subst hl9
  obtain ⟨hx, hb, hr, hml, hown, hts9, hXs, hbl, hlk, hgv⟩ := id C0
  have hts : ∀ w ∈ Tw, w.before #[Value.ref b] s = true := fun w hw => hts9 w (tw_lw hw)
  have hown : s.vm.findClass RL = some m.cls := hown
  have hb : c.code = cL_law := hb
  have hB : eB E ≤ s.heap.size := Nat.le_of_eq hBE
  have hBF := hE.2.2.1
  have hS : va_S (fr E) s.heap s.heap [] := va_S.rf
  have hl := lv_entry [Value.ref b] (n := 16) (Nat.le_of_ble_eq_true rfl)
  rw [lg_entry_eq]
  generalize ((lg_sl [Value.ref b] ++ List.replicate (16 - (lg_sl [Value.ref b]).length) Slot.unset).toArray) = ls at hl ⊢
  have hl : lv_has ls 16 [(0, .ref b)] := hl
  refine lnw (fs := [.null, .null, .null]) hx hb hts hown hE hS nkL_9 (fun j hj => by rcases (show j = 0 ∨ j = 1 ∨ j = 2 by omega) with rfl | rfl | rfl <;> rfl) (by omega) (by omega) dL_law_0 (fun x H1 ex hO1 hz1 hq1 hE hS hgx => ?_)
  refine lv_dup hx hb dL_law_3 rfl ?_
  refine lgI hx hb hml hts hown hB hE hS kwL_45 (c_xini E (fun _ => (0, 0)) x H1 hO1 hgx rfl) (by decide) rfl hl.1 rfl (Nat.le_of_ble_eq_true rfl) (by omega) (by omega) dL_law_4 (fun H2 L2 hG2 hz2 hE hS => ?_)
  refine lv_astore_n (lv' := [(1, .ref x), (0, .ref b)]) hx hb dL_law_7 rfl hl (by decide) rfl (fun ls hl => ?_)
  obtain ⟨ow2, e2, n2, hX2, hF2⟩ := hG2
  have hg2 := hE.2.1
  refine lv_bipush (v := 10) hx hb dL_law_8 (by decide) ?_
  refine lnaI (N' := 10) hx hb hts hE hS qw2_170 rfl (by decide) (by show _ ≤ 1173600; omega) (by show _ ≤ 5581029; omega) dL_law_10 (fun a2 H3 ea2 hI3 hz3 hq3 hE hS hga2 => ?_)
  refine lv_astore_n (lv' := [(2, .ref a2), (1, .ref x), (0, .ref b)]) hx hb dL_law_12 rfl hl (by decide) rfl (fun ls hl => ?_)
  refine lv_bipush (v := 10) hx hb dL_law_13 (by decide) ?_
  refine lnaI (N' := 10) hx hb hts hE hS qw2_170 rfl (by decide) (by show _ ≤ 1173600; omega) (by show _ ≤ 5581029; omega) dL_law_15 (fun a3 H4 ea3 hI4 hz4 hq4 hE hS hga3 => ?_)
  refine lv_astore_n (lv' := [(3, .ref a3), (2, .ref a2), (1, .ref x), (0, .ref b)]) hx hb dL_law_17 rfl hl (by decide) rfl (fun ls hl => ?_)
  refine lv_bipush (v := 10) hx hb dL_law_18 (by decide) ?_
  refine lnaI (N' := 10) hx hb hts hE hS qw2_170 rfl (by decide) (by show _ ≤ 1173600; omega) (by show _ ≤ 5581029; omega) dL_law_20 (fun a4 H5 ea4 hI5 hz5 hq5 hE hS hga4 => ?_)
  refine lv_astore (lv' := [(4, .ref a4), (3, .ref a3), (2, .ref a2), (1, .ref x), (0, .ref b)]) hx hb dL_law_22 hl (by decide) rfl (fun ls hl => ?_)
  refine lv_iconst (v := 2) hx hb dL_law_24 (by decide) ?_
  refine lnaI (N' := 2) hx hb hts hE hS qw2_170 rfl (by decide) (by show _ ≤ 1173600; omega) (by show _ ≤ 5581029; omega) dL_law_25 (fun a5 H6 ea5 hI6 hz6 hq6_ hE hS hga5 => ?_)
  refine lv_astore (lv' := [(5, .ref a5), (4, .ref a4), (3, .ref a3), (2, .ref a2), (1, .ref x), (0, .ref b)]) hx hb dL_law_27 hl (by decide) rfl (fun ls hl => ?_)
  obtain ⟨ow6, eo6⟩ : ∃ z : Nat → Nat × Nat, z = fun q => if q = a2 then (4, 1) else if q = a3 then (4, 2) else if q = a4 then (4, 3) else if q = a5 then (4, 4) else ow2 q := ⟨_, rfl⟩
  have l2 : ow6 a2 = (4, 1) := by rw [eo6]; exact if_pos rfl
  have l3 : ow6 a3 = (4, 2) := by rw [eo6]; show (if a3 = a2 then (4, 1) else if a3 = a3 then (4, 2) else _) = _; rw [if_neg (by omega), if_pos rfl]
  have l4 : ow6 a4 = (4, 3) := by rw [eo6]; show (if a4 = a2 then (4, 1) else if a4 = a3 then (4, 2) else if a4 = a4 then (4, 3) else _) = _; rw [if_neg (by omega), if_neg (by omega), if_pos rfl]
  have l5 : ow6 a5 = (4, 4) := by rw [eo6]; show (if a5 = a2 then (4, 1) else if a5 = a3 then (4, 2) else if a5 = a4 then (4, 3) else if a5 = a5 then (4, 4) else _) = _; rw [if_neg (by omega), if_neg (by omega), if_neg (by omega), if_pos rfl]
  have hk6 : ∀ q, q < H2.size → ow6 q = ow2 q := fun q h => by rw [eo6]; show (if q = a2 then (4, 1) else if q = a3 then (4, 2) else if q = a4 then (4, 3) else if q = a5 then (4, 4) else ow2 q) = _; rw [if_neg (by omega), if_neg (by omega), if_neg (by omega), if_neg (by omega)]
  have hq6 : ∀ q : Nat, q < H2.size → H6[q]? = H2[q]? := fun q h => (hq6_ q (by omega)).trans ((hq5 q (by omega)).trans ((hq4 q (by omega)).trans (hq3 q h)))
  have hX6 : XR E ow6 x [] [] [] [] H6 := hX2.kept (fun q h => hq6 q (by omega)) hBF (fun q h _ => hq6 q h) hk6
  have hI3 := pk3 (pk3 (pk3 hI3 hq4) hq5) hq6_
  have hI4 := pk3 (pk3 hI4 hq5) hq6_
  have hI5 := pk3 hI5 hq6_
  refine lv_iconst (v := 0) hx hb dL_law_29 (by decide) ?_
  refine lv_istore (lv' := [(6, .int (nI 0)), (5, .ref a5), (4, .ref a4), (3, .ref a3), (2, .ref a2), (1, .ref x), (0, .ref b)]) hx hb dL_law_30 hl (by decide) rfl (fun ls hl => ?_)
  refine lv_iconst (v := 0) hx hb dL_law_32 (by decide) ?_
  refine lv_istore (lv' := [(7, .int (nI 0)), (6, .int (nI 0)), (5, .ref a5), (4, .ref a4), (3, .ref a3), (2, .ref a2), (1, .ref x), (0, .ref b)]) hx hb dL_law_33 hl (by decide) rfl (fun ls hl => ?_)
  exact law_loop hL hx hb hr hml hown hts hlk hBE hXs hbl ⟨hga2, hga3, hga4, hga5⟩ 44 0 0 H6 _ _ _ ls rfl hE hS ⟨ow6, [], [], [], [], fun _ => 0, fun _ => 0, fun _ => 0, fun _ => 0, ⟨hX6, ⟨hI3, hI4, hI5, hI6⟩, l2, l3, l4, l5⟩, gi_nil, rfl, by omega, by omega⟩ (lv_sub hl [7, 6, 5, 4, 3, 2, 1, 0] rfl)
