theorem sv_nil : SV [] [] [] [] := ⟨Nat.zero_le _, Nat.zero_le _, fun x h => (by cases h), fun x h => (by cases h), fun x h => (by cases h), Nat.zero_le _, List.Pairwise.nil, Nat.zero_le _, fun tr h => (by cases h)⟩
set_option maxRecDepth 100000 in
set_option maxHeartbeats 4000000 in
/-- THE LAW, from its entry -/
theorem whole_start {p : Program} {e : Env} {s : State} {m : MethodId} {below : List Frame} {meth : Method} {c : Code} (l : Launch) (hflags : l.flags = flags0) {b L : Nat} {xs : Nat → Int32} (hL : L ≤ 4096) (C0 : lw_At p s m meth c b L xs) : W p l e room_1 s m #[Value.ref b] below meth c s.heap [] 0 0 (lw_Z below #[Value.ref b] s) (entryFrame m ([Value.ref b] : List Value).toArray 8) := by
  obtain ⟨E, hl9, hBE, hE⟩ := ev_start l hflags C0
  subst hl9
  obtain ⟨hx, hb, hr, hml, hown, hts9, hXs, hbl, hlk, hgv⟩ := id C0
  have hts : ∀ w ∈ Tw, w.before #[Value.ref b] s = true := fun w hw => hts9 w (tw_lw hw)
  have hown : s.vm.findClass RL = some m.cls := hown
  have hb : c.code = cL_law := hb
  have hB : eB E ≤ s.heap.size := Nat.le_of_eq hBE
  have hBF := hE.2.2.1
  have hS : va_S (fr E) s.heap s.heap [] := va_S.rf
  have hl := lv_entry [Value.ref b] (n := 8) (Nat.le_of_ble_eq_true rfl)
  rw [lg_entry_eq]
  generalize ((lg_sl [Value.ref b] ++ List.replicate (8 - (lg_sl [Value.ref b]).length) Slot.unset).toArray) = ls at hl ⊢
  have hl : lv_has ls 8 [(0, .ref b)] := hl
  refine lnw (fs := [.null, .null, .null]) hx hb hts hown hE hS nkL_8 (fun j hj => by rcases (show j = 0 ∨ j = 1 ∨ j = 2 by omega) with rfl | rfl | rfl <;> rfl) (by omega) (by omega) dL_law_0 (fun x H1 ex hO1 hz1 hq1 hE hS hgx => ?_)
  refine lv_dup hx hb dL_law_3 rfl ?_
  refine lgI hx hb hml hts hown hB hE hS kwL_83 (c_xini E (fun _ => (0, 0)) x H1 hO1 hgx rfl) (by decide) rfl hl.1 rfl (Nat.le_of_ble_eq_true rfl) (by omega) (by omega) dL_law_4 (fun H2 L2 hG2 hz2 hE hS2 => ?_)
  refine lv_astore_n (lv' := [(1, .ref x), (0, .ref b)]) hx hb dL_law_7 rfl hl (by decide) rfl (fun ls hl => ?_)
  obtain ⟨ow2, e2, n2, hX2, hF2⟩ := hG2
  have hg2 := hE.2.1
  refine lnw (fs := [.int 0, .null, .null, .null, .null, .int 0, .int 0, .null, .null, .null, .null, .null, .null, .null, .null, .null, .null, .int 0, .null, .null, .null, .null, .null, .null]) hx hb hts hown hE hS2 nkL_84 (fun j hj => by rcases (show j = 0 ∨ j = 1 ∨ j = 2 ∨ j = 3 ∨ j = 4 ∨ j = 5 ∨ j = 6 ∨ j = 7 ∨ j = 8 ∨ j = 9 ∨ j = 10 ∨ j = 11 ∨ j = 12 ∨ j = 13 ∨ j = 14 ∨ j = 15 ∨ j = 16 ∨ j = 17 ∨ j = 18 ∨ j = 19 ∨ j = 20 ∨ j = 21 ∨ j = 22 ∨ j = 23 by omega) with rfl | rfl | rfl | rfl | rfl | rfl | rfl | rfl | rfl | rfl | rfl | rfl | rfl | rfl | rfl | rfl | rfl | rfl | rfl | rfl | rfl | rfl | rfl | rfl <;> rfl) (by omega) (by omega) dL_law_8 (fun mo H3 em hO3 hz3 hq3 hE hS3 hgm => ?_)
  obtain ⟨ow3, eo3⟩ : ∃ z : Nat → Nat × Nat, z = fun q => if q = mo then (4, 0) else ow2 q := ⟨_, rfl⟩
  have hm3 : ow3 mo = (4, 0) := by rw [eo3]; exact if_pos rfl
  have hX3 : XR E ow3 x [] [] [] [] H3 := hX2.kept (fun q h => hq3 q (by omega)) hBF (fun q h _ => hq3 q h) (fun q h => by rw [eo3]; exact if_neg (by omega))
  refine lv_dup hx hb dL_law_11 rfl ?_
  refine lgI hx hb hml hts hown hB hE hS3 kwL_86 (c_minit E ow3 mo H3 hO3 hgm hm3) (by decide) rfl hl.1 rfl (Nat.le_of_ble_eq_true rfl) (by omega) (by omega) dL_law_12 (fun H4 L4 hG4 hz4 hE hS4 => ?_)
  refine lv_astore_n (lv' := [(2, .ref mo), (1, .ref x), (0, .ref b)]) hx hb dL_law_15 rfl hl (by decide) rfl (fun ls hl => ?_)
  obtain ⟨ow4, e4, n4, hM4, hF4, hs4⟩ := hG4
  have hX4 : XR E ow4 x [] [] [] [] H4 := hX3.kept (old9 hB hS3 hS4) hBF (fun q h h4 => hF4.2 q h (fun q9 => h4 (by rw [q9, hm3]))) e4
  have hg4 := hE.2.1
  refine lv_iconst (v := 1) hx hb dL_law_16 (by decide) ?_
  refine naJ (N' := 1) hx hb hts hE hS4 qw4_180 rfl (by decide) (by show _ ≤ 601024; omega) (by show _ ≤ 7293033; omega) dL_law_17 (fun o H5 eo hJ5 hz5 hq5 hE hS5 hgo => ?_)
  obtain ⟨ow5, eo5⟩ : ∃ z : Nat → Nat × Nat, z = fun q => if q = o then (4, 100) else ow4 q := ⟨_, rfl⟩
  have ho5 : ow5 o = (4, 100) := by rw [eo5]; exact if_pos rfl
  have hk5 : ∀ q, q < H4.size → ow5 q = ow4 q := fun q h => by rw [eo5]; exact if_neg (by omega)
  have hX5 : XR E ow5 x [] [] [] [] H5 := hX4.kept (fun q h => hq5 q (by omega)) hBF (fun q h _ => hq5 q h) hk5
  have hM5 : MW E ow5 mo [] [] [] [] [] 0 H5 := hM4.kept (fun q h _ _ => hq5 q h) hk5
  refine lv_astore_n (lv' := [(3, .ref o), (2, .ref mo), (1, .ref x), (0, .ref b)]) hx hb dL_law_19 rfl hl (by decide) rfl (fun ls hl => ?_)
  refine lv_iconst (v := 0) hx hb dL_law_20 (by decide) ?_
  refine lv_istore (lv' := [(4, .int (nI (8 * 0))), (3, .ref o), (2, .ref mo), (1, .ref x), (0, .ref b)]) hx hb dL_law_21 hl (by decide) rfl (fun ls hl => ?_)
  exact law_loop hL hx hb hr hml hown hts hlk hBE hXs hbl hgo 513 0 H5 _ _ _ ls (Nat.zero_le _) (by omega) hE hS5 ⟨ow5, [], [], [], [], [], 0, fun _ => 0, hX5, hM5, hJ5, ho5, sv_nil, Nat.zero_le _, by omega, by omega⟩ (lv_sub hl [0, 4, 3, 2, 1] rfl)
