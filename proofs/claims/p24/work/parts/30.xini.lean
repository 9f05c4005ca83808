/-- the office as its writer sees it: x the object, labels other than 4 are its own -/
def XR (E : ET) (ow : Nat → Nat × Nat) (x : Nat) (h0 h1 fx : Dy) (ts : List TR) (H : Heap) : Prop := ∃ (q fd bk : Nat) (wa : Nat → Nat), OB E 5 [.ref q, .ref fd, .ref bk] x H ∧ CRo E ow q h0 h1 H ∧ DRo E ow 1 fd fx H ∧ LRo E ow 5 bk ts.length wa H ∧ (∀ t tr, ts[t]? = some tr → SRo E ow (10 + 3 * t) (wa t) tr (bfC h0 h1 tr.1) H) ∧ ow x = (0, 0) ∧ eB E ≤ x
def XOut (E : ET) (ow : Nat → Nat × Nat) (x : Nat) (h0 h1 fx : Dy) (ts : List TR) (H H' : Heap) : Prop := ∃ ow' : Nat → Nat × Nat, (∀ q, q < H.size → ow' q = ow q) ∧ (∀ q, H.size ≤ q → (ow' q).1 ≠ 4) ∧ XR E ow' x h0 h1 fx ts H' ∧ FR (fun q => (ow q).1 ≠ 4) H H'
set_option maxRecDepth 100000 in
set_option maxHeartbeats 4000000 in
/-- Calendar() -/
theorem c_cini (E : ET) (q : Nat) (H : Heap) (hO : OB E 1 [.null, .null] q H) (hg : eB E ≤ q) : Con E yX0_init cX0_init 1 (none : Option FieldType) 5 4 8 [.ref q] H (o1 none (fun H' => OB E 1 [.ref H.size, .ref (H.size + 2)] q H' ∧ OB E 2 [.ref (H.size + 1)] H.size H' ∧ OB E 0 [.int 0, .ref (eF E), .int (nI 0)] (H.size + 1) H' ∧ OB E 2 [.ref (H.size + 3)] (H.size + 2) H' ∧ OB E 0 [.int 0, .ref (eF E), .int (nI 0)] (H.size + 3) H' ∧ FR (fun z => z = q) H H' ∧ H'.size = H.size + 4)) := by
  refine Con.of (C := RX0) rfl (by decide +kernel) (Nat.le_of_ble_eq_true rfl) ?_
  intro p e s m below meth co ls hx hb hr hlk hml hown hts hin hE hH hS hl
  have hl : lv_has ls 1 [(0, .ref q)] := hl
  have hB : eB E ≤ s.heap.size := by rw [hH]; exact hE.2.1
  have hwl := plt hO
  refine lv_aload_n hx hb dX0_init_0 rfl (lv_at hl 0 rfl) ?_
  refine oI hx hb hml hts hown qw1_34 qw1_27 qw1_28 (Nat.le_of_ble_eq_true rfl) hl.1 (Nat.le_of_ble_eq_true rfl) dX0_init_1 ?_
  refine lv_aload_n hx hb dX0_init_4 rfl (lv_at hl 0 rfl) ?_
  have hF : FR (fun z => z = q) H H := FR.rf
  refine nw (fs := [.null]) hx hb hts hown hE hS nkX0_9 (fun j hj => by rcases (show j = 0 by omega) with rfl <;> rfl) (by omega) (by omega) dX0_init_5 (fun da H1 ea1 hD1 hz1 hq1 hE hS hg1 => ?_)
  have hO := pk3 hO hq1
  have hF := hF.new (by omega) hq1
  refine lv_dup hx hb dX0_init_8 rfl ?_
  refine gI hx hb hml hts hown hB hE hS kwX0_11 (c_dini E da .null H1 hD1 hg1) (Nat.le_of_ble_eq_true rfl) rfl hl.1 rfl (Nat.le_of_ble_eq_true rfl) (by omega) (by omega) dX0_init_9 (fun H2 L2 hG hz2 hE hS => ?_)
  obtain ⟨hD1, hL1, hG2, hz9_2⟩ := hG
  obtain ⟨dal, elda⟩ : ∃ z, z = H1.size := ⟨_, rfl⟩
  rw [← elda] at hD1 hL1
  have hO := hG2.at hO (by omega)
  have hF := hF.tr hG2 (fun z hz h => by omega)
  refine pfF hx hb hts hown hin hE hS pkX0_12 rfl rfl hO hg rfl rfl (Nat.le_of_ble_eq_true rfl) dX0_init_12 (fun H3 L3 hO3 hz3 hq3 hE hS => ?_)
  have hO : OB E 1 [.ref da, .null] q H3 := hO3
  have hD1 := pk2 hD1 hq3 (by omega)
  have hL1 := pk2 hL1 hq3 (by omega)
  have hF := hF.put hz3 hq3 (fun _ => rfl)
  refine lv_aload_n hx hb dX0_init_15 rfl (lv_at hl 0 rfl) ?_
  refine nw (fs := [.null]) hx hb hts hown hE hS nkX0_9 (fun j hj => by rcases (show j = 0 by omega) with rfl <;> rfl) (by omega) (by omega) dX0_init_16 (fun db H4 ea4 hD2 hz4 hq4 hE hS hg4 => ?_)
  have hO := pk3 hO hq4
  have hD1 := pk3 hD1 hq4
  have hL1 := pk3 hL1 hq4
  have hF := hF.new (by omega) hq4
  refine lv_dup hx hb dX0_init_19 rfl ?_
  refine gI hx hb hml hts hown hB hE hS kwX0_11 (c_dini E db .null H4 hD2 hg4) (Nat.le_of_ble_eq_true rfl) rfl hl.1 rfl (Nat.le_of_ble_eq_true rfl) (by omega) (by omega) dX0_init_20 (fun H5 L5 hG hz5 hE hS => ?_)
  obtain ⟨hD2, hL2, hG2, hz9_5⟩ := hG
  obtain ⟨dbl, eldb⟩ : ∃ z, z = H4.size := ⟨_, rfl⟩
  rw [← eldb] at hD2 hL2
  have hO := hG2.at hO (by omega)
  have hD1 := hG2.at hD1 (by omega)
  have hL1 := hG2.at hL1 (by omega)
  have hF := hF.tr hG2 (fun z hz h => by omega)
  refine pfF hx hb hts hown hin hE hS pkX0_18 rfl rfl hO hg rfl rfl (Nat.le_of_ble_eq_true rfl) dX0_init_23 (fun H6 L6 hO6 hz6 hq6 hE hS => ?_)
  have hO : OB E 1 [.ref da, .ref db] q H6 := hO6
  have hD1 := pk2 hD1 hq6 (by omega)
  have hL1 := pk2 hL1 hq6 (by omega)
  have hD2 := pk2 hD2 hq6 (by omega)
  have hL2 := pk2 hL2 hq6 (by omega)
  have hF := hF.put hz6 hq6 (fun _ => rfl)
  have a1 : da = H.size := by omega
  have a2 : dal = H.size + 1 := by omega
  have a3 : db = H.size + 2 := by omega
  have a4 : dbl = H.size + 3 := by omega
  rw [a1, a3] at hO
  rw [a1, a2] at hD1
  rw [a2] at hL1
  rw [a3, a4] at hD2
  rw [a4] at hL2
  exact cU hx hb hr hlk hB hS (by omega) (by omega) (⟨rfl, hO, hD1, hL1, hD2, hL2, hF, by omega⟩) dX0_init_26

set_option maxRecDepth 100000 in
set_option maxHeartbeats 4000000 in
/-- Resetline() -/
theorem c_xini (E : ET) (ow : Nat → Nat × Nat) (x : Nat) (H : Heap) (hO : OB E 5 [.null, .null, .null] x H) (hg : eB E ≤ x) (hox : ow x = (0, 0)) : Con E yX4_init cX4_init 1 (none : Option FieldType) 6 8 17 [.ref x] H (o1 none (fun H' => XOut E ow x [] [] [] [] H H')) := by
  refine Con.of (C := RX4) rfl (by decide +kernel) (Nat.le_of_ble_eq_true rfl) ?_
  intro p e s m below meth co ls hx hb hr hlk hml hown hts hin hE hH hS hl
  have hl : lv_has ls 1 [(0, .ref x)] := hl
  have hB : eB E ≤ s.heap.size := by rw [hH]; exact hE.2.1
  have hwl := plt hO
  refine lv_aload_n hx hb dX4_init_0 rfl (lv_at hl 0 rfl) ?_
  refine oI hx hb hml hts hown qw1_26 qw1_27 qw1_28 (Nat.le_of_ble_eq_true rfl) hl.1 (Nat.le_of_ble_eq_true rfl) dX4_init_1 ?_
  refine lv_aload_n hx hb dX4_init_4 rfl (lv_at hl 0 rfl) ?_
  have hF : FR (fun z => z = x) H H := FR.rf
  refine nw (fs := [.null, .null]) hx hb hts hown hE hS nkX4_7 (fun j hj => by rcases (show j = 0 ∨ j = 1 by omega) with rfl | rfl <;> rfl) (by omega) (by omega) dX4_init_5 (fun q H1 ea1 hQ hz1 hq1 hE hS hg1 => ?_)
  have hO := pk3 hO hq1
  have hF := hF.new (by omega) hq1
  refine lv_dup hx hb dX4_init_8 rfl ?_
  refine gI hx hb hml hts hown hB hE hS kwX4_9 (c_cini E q H1 hQ hg1) (Nat.le_of_ble_eq_true rfl) rfl hl.1 rfl (Nat.le_of_ble_eq_true rfl) (by omega) (by omega) dX4_init_9 (fun H2 L2 hG hz2 hE hS => ?_)
  obtain ⟨hQ, hD1, hL1, hD2, hL2, hG2, hz9_2⟩ := hG
  obtain ⟨a1, e1⟩ : ∃ z, z = H1.size := ⟨_, rfl⟩
  rw [← e1] at hQ hD1 hL1 hD2 hL2
  have hO := hG2.at hO (by omega)
  have hF := hF.tr hG2 (fun z hz h => by omega)
  refine pfF hx hb hts hown hin hE hS pkX4_10 rfl rfl hO hg rfl rfl (Nat.le_of_ble_eq_true rfl) dX4_init_12 (fun H3 L3 hO3 hz3 hq3 hE hS => ?_)
  have hO : OB E 5 [.ref q, .null, .null] x H3 := hO3
  have hQ := pk2 hQ hq3 (by omega)
  have hD1 := pk2 hD1 hq3 (by omega)
  have hL1 := pk2 hL1 hq3 (by omega)
  have hD2 := pk2 hD2 hq3 (by omega)
  have hL2 := pk2 hL2 hq3 (by omega)
  have hF := hF.put hz3 hq3 (fun _ => rfl)
  refine lv_aload_n hx hb dX4_init_15 rfl (lv_at hl 0 rfl) ?_
  refine nw (fs := [.null]) hx hb hts hown hE hS nkX4_16 (fun j hj => by rcases (show j = 0 by omega) with rfl <;> rfl) (by omega) (by omega) dX4_init_16 (fun fd H4 ea4 hD3 hz4 hq4 hE hS hg4 => ?_)
  have hO := pk3 hO hq4
  have hQ := pk3 hQ hq4
  have hD1 := pk3 hD1 hq4
  have hL1 := pk3 hL1 hq4
  have hD2 := pk3 hD2 hq4
  have hL2 := pk3 hL2 hq4
  have hF := hF.new (by omega) hq4
  refine lv_dup hx hb dX4_init_19 rfl ?_
  refine gI hx hb hml hts hown hB hE hS kwX4_18 (c_dini E fd .null H4 hD3 hg4) (Nat.le_of_ble_eq_true rfl) rfl hl.1 rfl (Nat.le_of_ble_eq_true rfl) (by omega) (by omega) dX4_init_20 (fun H5 L5 hG hz5 hE hS => ?_)
  obtain ⟨hD3, hL3, hG2, hz9_5⟩ := hG
  obtain ⟨fdl, elfd⟩ : ∃ z, z = H4.size := ⟨_, rfl⟩
  rw [← elfd] at hD3 hL3
  have hO := hG2.at hO (by omega)
  have hQ := hG2.at hQ (by omega)
  have hD1 := hG2.at hD1 (by omega)
  have hL1 := hG2.at hL1 (by omega)
  have hD2 := hG2.at hD2 (by omega)
  have hL2 := hG2.at hL2 (by omega)
  have hF := hF.tr hG2 (fun z hz h => by omega)
  refine pfF hx hb hts hown hin hE hS pkX4_19 rfl rfl hO hg rfl rfl (Nat.le_of_ble_eq_true rfl) dX4_init_23 (fun H6 L6 hO6 hz6 hq6 hE hS => ?_)
  have hO : OB E 5 [.ref q, .ref fd, .null] x H6 := hO6
  have hQ := pk2 hQ hq6 (by omega)
  have hD1 := pk2 hD1 hq6 (by omega)
  have hL1 := pk2 hL1 hq6 (by omega)
  have hD2 := pk2 hD2 hq6 (by omega)
  have hL2 := pk2 hL2 hq6 (by omega)
  have hD3 := pk2 hD3 hq6 (by omega)
  have hL3 := pk2 hL3 hq6 (by omega)
  have hF := hF.put hz6 hq6 (fun _ => rfl)
  refine lv_aload_n hx hb dX4_init_26 rfl (lv_at hl 0 rfl) ?_
  refine nw (fs := [.int 0, .null, .int 0]) hx hb hts hown hE hS nkX4_23 (fun j hj => by rcases (show j = 0 ∨ j = 1 ∨ j = 2 by omega) with rfl | rfl | rfl <;> rfl) (by omega) (by omega) dX4_init_27 (fun bk H7 ea7 hB5 hz7 hq7 hE hS hg7 => ?_)
  have hO := pk3 hO hq7
  have hQ := pk3 hQ hq7
  have hD1 := pk3 hD1 hq7
  have hL1 := pk3 hL1 hq7
  have hD2 := pk3 hD2 hq7
  have hL2 := pk3 hL2 hq7
  have hD3 := pk3 hD3 hq7
  have hL3 := pk3 hL3 hq7
  have hF := hF.new (by omega) hq7
  refine lv_dup hx hb dX4_init_30 rfl ?_
  refine gI hx hb hml hts hown hB hE hS kwX4_25 (c_lini E bk .null 0 H7 hB5 hg7) (Nat.le_of_ble_eq_true rfl) rfl hl.1 rfl (Nat.le_of_ble_eq_true rfl) (by omega) (by omega) dX4_init_31 (fun H8 L8 hG hz8 hE hS => ?_)
  obtain ⟨hB5, hG2, hz9_8⟩ := hG
  have hO := hG2.at hO (by omega)
  have hQ := hG2.at hQ (by omega)
  have hD1 := hG2.at hD1 (by omega)
  have hL1 := hG2.at hL1 (by omega)
  have hD2 := hG2.at hD2 (by omega)
  have hL2 := hG2.at hL2 (by omega)
  have hD3 := hG2.at hD3 (by omega)
  have hL3 := hG2.at hL3 (by omega)
  have hF := hF.tr hG2 (fun z hz h => by omega)
  refine pfF hx hb hts hown hin hE hS pkX4_26 rfl rfl hO hg rfl rfl (Nat.le_of_ble_eq_true rfl) dX4_init_34 (fun H9 L9 hO9 hz9 hq9 hE hS => ?_)
  have hO : OB E 5 [.ref q, .ref fd, .ref bk] x H9 := hO9
  have hQ := pk2 hQ hq9 (by omega)
  have hD1 := pk2 hD1 hq9 (by omega)
  have hL1 := pk2 hL1 hq9 (by omega)
  have hD2 := pk2 hD2 hq9 (by omega)
  have hL2 := pk2 hL2 hq9 (by omega)
  have hD3 := pk2 hD3 hq9 (by omega)
  have hL3 := pk2 hL3 hq9 (by omega)
  have hB5 := pk2 hB5 hq9 (by omega)
  have hF := hF.put hz9 hq9 (fun _ => rfl)
  have hEF := hE.2.2.2.1
  have hgB : eB E ≤ H.size := by rw [← hH]; exact hB
  refine cU hx hb hr hlk hB hS (by omega) (by omega) ⟨rfl, fun z => if z < H.size then ow z else if z = q then (0, 1) else if z = a1 then (2, 0) else if z = a1 + 1 then (2, 1) else if z = a1 + 2 then (3, 0) else if z = a1 + 3 then (3, 1) else if z = fd then (1, 0) else if z = fdl then (1, 1) else (5, 1), fun z h9 => if_pos h9, fun z h9 => ?_, ⟨q, fd, bk, fun _ => 0, hO, ⟨a1, a1 + 2, hQ, DRo.nil hD1 hL1 hEF ?_ (by omega) ?_ (by omega), DRo.nil hD2 hL2 hEF ?_ (by omega) ?_ (by omega), ?_, by omega⟩, DRo.nil hD3 hL3 hEF ?_ (by omega) ?_ (by omega), LRo.nil hB5 hEF ?_ (by omega), fun t tr ht => by simp at ht, ?_, hg⟩, ⟨hF.1, fun z h9 h8 => hF.2 z h9 (fun e => h8 (by have e : z = x := e; show (ow z).1 ≠ 4; rw [e, hox]; decide))⟩⟩ dX4_init_37
  · (try dsimp only)
    rw [if_neg (Nat.not_lt.mpr h9)]
    repeat (split; · (try decide))
    decide
  · (try dsimp only)
    rw [if_neg (by omega), if_neg (by omega), if_neg (by omega), if_pos rfl]
  · (try dsimp only)
    rw [if_neg (by omega), if_neg (by omega), if_pos rfl]
  · (try dsimp only)
    rw [if_neg (by omega), if_neg (by omega), if_neg (by omega), if_neg (by omega), if_neg (by omega), if_pos rfl]
  · (try dsimp only)
    rw [if_neg (by omega), if_neg (by omega), if_neg (by omega), if_neg (by omega), if_pos rfl]
  · (try dsimp only)
    rw [if_neg (by omega), if_pos rfl]
  · (try dsimp only)
    rw [if_neg (by omega), if_neg (by omega), if_neg (by omega), if_neg (by omega), if_neg (by omega), if_neg (by omega), if_neg (by omega), if_pos rfl]
  · (try dsimp only)
    rw [if_neg (by omega), if_neg (by omega), if_neg (by omega), if_neg (by omega), if_neg (by omega), if_neg (by omega), if_pos rfl]
  · (try dsimp only)
    rw [if_neg (by omega), if_neg (by omega), if_neg (by omega), if_neg (by omega), if_neg (by omega), if_neg (by omega), if_neg (by omega), if_neg (by omega)]
  · (try dsimp only)
    rw [if_pos hwl]; exact hox
