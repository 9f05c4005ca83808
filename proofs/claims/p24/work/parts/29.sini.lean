def mkT (pa lo pf fi fs le pe : Int32) : Nat → Int32 := fun k => match k with
  | 0 => pa | 1 => lo | 2 => pf | 3 => fi | 4 => fs | 5 => le | 6 => pe | _ => 0
/-- a trade as its writer sees it -/
def SRo (E : ET) (ow : Nat → Nat × Nat) (L w : Nat) (tr : TR) (bf : Nat → Int32) (H : Heap) : Prop := ∃ db dh bd, OB E 4 (tfs tr.1 db dh bd) w H ∧ DRo E ow (L + 1) db tr.2.1 H ∧ DRo E ow (L + 2) dh tr.2.2 H ∧ IA E 11 bf bd H ∧ ow w = (L, 0) ∧ ow bd = (L, 1) ∧ eB E ≤ w ∧ eB E ≤ bd
theorem SRo.kept {E : ET} {ow ow' : Nat → Nat × Nat} {L w : Nat} {tr : TR} {bf : Nat → Int32} {H H' : Heap} (h : SRo E ow L w tr bf H) (hF : ∀ q, q < eB E → H'[q]? = H[q]?) (hB : eF E < eB E) (hq : ∀ q, q < H.size → L ≤ (ow q).1 ∧ (ow q).1 ≤ L + 2 → H'[q]? = H[q]?) (hw : ∀ q, q < H.size → ow' q = ow q) : SRo E ow' L w tr bf H' := by
  obtain ⟨db, dh, bd, h1, h2, h3, h4, h5, h6, h7, h8⟩ := h
  exact ⟨db, dh, bd, pk1 h1 (hq w (plt h1) (by rw [h5]; exact ⟨Nat.le_refl _, Nat.le_add_right _ _⟩)), h2.kept hF hB (fun q a b => hq q a (by omega)) hw, h3.kept hF hB (fun q a b => hq q a (by omega)) hw, pk1 h4 (hq bd (plt h4) (by rw [h6]; exact ⟨Nat.le_refl _, Nat.le_add_right _ _⟩)), by rw [hw w (plt h1)]; exact h5, by rw [hw bd (plt h4)]; exact h6, h7, h8⟩
/-- the calendar as its writer sees it -/
def CRo (E : ET) (ow : Nat → Nat × Nat) (q : Nat) (h0 h1 : Dy) (H : Heap) : Prop := ∃ d0 d1, OB E 1 [.ref d0, .ref d1] q H ∧ DRo E ow 2 d0 h0 H ∧ DRo E ow 3 d1 h1 H ∧ ow q = (0, 1) ∧ eB E ≤ q
theorem CRo.kept {E : ET} {ow ow' : Nat → Nat × Nat} {q : Nat} {h0 h1 : Dy} {H H' : Heap} (h : CRo E ow q h0 h1 H) (hF : ∀ q, q < eB E → H'[q]? = H[q]?) (hB : eF E < eB E) (hq : ∀ q, q < H.size → (ow q).1 = 0 ∨ (ow q).1 = 2 ∨ (ow q).1 = 3 → H'[q]? = H[q]?) (hw : ∀ q, q < H.size → ow' q = ow q) : CRo E ow' q h0 h1 H' := by
  obtain ⟨d0, d1, g1, g2, g3, g4, g5⟩ := h
  exact ⟨d0, d1, pk1 g1 (hq q (plt g1) (by rw [g4]; exact Or.inl rfl)), g2.kept hF hB (fun q a b => hq q a (Or.inr (Or.inl b))) hw, g3.kept hF hB (fun q a b => hq q a (Or.inr (Or.inr b))) hw, by rw [hw q (plt g1)]; exact g4, g5⟩
theorem CRo.CR {E : ET} {ow : Nat → Nat × Nat} {q : Nat} {h0 h1 : Dy} {H : Heap} (h : CRo E ow q h0 h1 H) (n0 : h0.length ≤ 20) (n1 : h1.length ≤ 20) : CR E q h0 h1 H := by
  obtain ⟨d0, d1, g1, g2, g3, g4, g5⟩ := h
  exact ⟨d0, d1, g1, g2.DR (by omega), g3.DR (by omega)⟩
theorem arrV_ext9 {cI : ClassId} {N : Nat} {f g : Nat → Value} (h : ∀ j, j < N → f j = g j) : arrV cI N f = arrV cI N g := by
  unfold arrV
  have e : (fun j : Fin N => f j.val) = (fun j : Fin N => g j.val) := funext fun j => h j.val j.isLt
  rw [e]
theorem IA.ext {E : ET} {n a : Nat} {f g : Nat → Int32} {H : Heap} (h : IA E n f a H) (e : ∀ i, i < n → f i = g i) : IA E n g a H := by
  refine one9 ?_
  have h0 := h 0 _ rfl
  show H[a]? = some (vp_cell _ _)
  have h0 : H[a]? = some (vp_cell (eA E 0) (n, .inl f)) := h0
  rw [h0, vp_cell_i, vp_cell_i]
  exact congrArg some (arrV_ext9 (fun j hj => by rw [e j hj]))
theorem LRo.nil {E : ET} {ow : Nat → Nat × Nat} {L a : Nat} {ad : Nat → Nat} {H : Heap} (h : OB E 0 [.int 0, .ref (eF E), .int (nI 0)] a H) (hE : E0 E (eF E) H) (ho : ow a = (L, 1)) (hg : eB E ≤ a) : LRo E ow L a 0 ad H := ⟨0, eF E, 0, fun _ => none, h, Or.inr ⟨rfl, hE⟩, Nat.le_refl _, Nat.zero_le _, fun i hi => absurd hi (Nat.not_lt_zero i), ho, hg, Or.inl ⟨rfl, rfl⟩⟩
theorem DRo.nil {E : ET} {ow : Nat → Nat × Nat} {L d a : Nat} {H : Heap} (hd : OB E 2 [.ref a] d H) (h : OB E 0 [.int 0, .ref (eF E), .int (nI 0)] a H) (hE : E0 E (eF E) H) (ho : ow a = (L, 1)) (hg : eB E ≤ a) (hod : ow d = (L, 0)) (hgd : eB E ≤ d) : DRo E ow L d [] H := ⟨a, fun _ => 0, hd, LRo.nil h hE ho hg, fun i x hx => by simp at hx, hod, hgd⟩
set_option maxRecDepth 100000 in
set_option maxHeartbeats 4000000 in
/-- Swap() -/
theorem c_sini (E : ET) (ow : Nat → Nat × Nat) (L w : Nat) (pa lo py fi fs le pe : Int32) (H : Heap) (hO : OB E 4 [.int 0, .int 0, .int 0, .int 0, .int 0, .int 0, .int 0, .int 0, .int 0, .int 0, .null, .null, .null] w H) (hp : py = 0 ∨ py = 1) (hg : eB E ≤ w) (how : ow w = (L, 0)) : Con E yX3_init cX3_init 8 (none : Option FieldType) 5 5 19 [.ref w, .int pa, .int lo, .int py, .int fi, .int fs, .int le, .int pe] H (o1 none (fun H' => ∃ ow' : Nat → Nat × Nat, (∀ q, q < H.size → ow' q = ow q) ∧ (∀ q, H.size ≤ q → L ≤ (ow' q).1 ∧ (ow' q).1 ≤ L + 2) ∧ SRo E ow' L w (mkT pa lo py fi fs le pe, [], []) (fun _ => 0) H' ∧ FR (fun q => q = w) H H')) := by
  refine Con.of (C := RX3) rfl (by decide +kernel) (Nat.le_of_ble_eq_true rfl) ?_
  intro p e s m below meth co ls hx hb hr hlk hml hown hts hin hE hH hS hl
  have hl : lv_has ls 8 [(0, .ref w), (1, .int pa), (2, .int lo), (3, .int py), (4, .int fi), (5, .int fs), (6, .int le), (7, .int pe)] := hl
  have hB : eB E ≤ s.heap.size := by rw [hH]; exact hE.2.1
  have hwl := plt hO
  refine lv_aload_n hx hb dX3_init_0 rfl (lv_at hl 0 rfl) ?_
  refine oI hx hb hml hts hown qw2_124 qw1_27 qw1_28 (Nat.le_of_ble_eq_true rfl) hl.1 (Nat.le_of_ble_eq_true rfl) dX3_init_1 ?_
  refine lv_aload_n hx hb dX3_init_4 rfl (lv_at hl 0 rfl) ?_
  refine lv_iload_n hx hb dX3_init_5 rfl (lv_at hl 1 rfl) ?_
  have hF : FR (fun q => q = w) H H := FR.rf
  refine pfF hx hb hts hown hin hE hS pkX3_9 rfl rfl hO hg rfl rfl (Nat.le_of_ble_eq_true rfl) dX3_init_6 (fun H1 L1 hO1 hz1 hq1 hE hS => ?_)
  have hO : OB E 4 [.int pa, .int 0, .int 0, .int 0, .int 0, .int 0, .int 0, .int 0, .int 0, .int 0, .null, .null, .null] w H1 := hO1
  have hF := hF.put hz1 hq1 (fun _ => rfl)
  refine lv_aload_n hx hb dX3_init_9 rfl (lv_at hl 0 rfl) ?_
  refine lv_iload_n hx hb dX3_init_10 rfl (lv_at hl 2 rfl) ?_
  refine pfF hx hb hts hown hin hE hS pkX3_15 rfl rfl hO hg rfl rfl (Nat.le_of_ble_eq_true rfl) dX3_init_11 (fun H2 L2 hO2 hz2 hq2 hE hS => ?_)
  have hO : OB E 4 [.int pa, .int lo, .int 0, .int 0, .int 0, .int 0, .int 0, .int 0, .int 0, .int 0, .null, .null, .null] w H2 := hO2
  have hF := hF.put hz2 hq2 (fun _ => rfl)
  refine lv_aload_n hx hb dX3_init_14 rfl (lv_at hl 0 rfl) ?_
  refine lv_iload_n hx hb dX3_init_15 rfl (lv_at hl 3 rfl) ?_
  refine pfF hx hb hts hown hin hE hS pkX3_18 rfl rfl hO hg (by rcases hp with rfl | rfl <;> rfl) (by rcases hp with rfl | rfl <;> rfl) (Nat.le_of_ble_eq_true rfl) dX3_init_16 (fun H3 L3 hO3 hz3 hq3 hE hS => ?_)
  have hO : OB E 4 [.int pa, .int lo, .int py, .int 0, .int 0, .int 0, .int 0, .int 0, .int 0, .int 0, .null, .null, .null] w H3 := hO3
  have hF := hF.put hz3 hq3 (fun _ => rfl)
  refine lv_aload_n hx hb dX3_init_19 rfl (lv_at hl 0 rfl) ?_
  refine lv_iload hx hb dX3_init_20 (lv_at hl 4 rfl) ?_
  refine pfF hx hb hts hown hin hE hS pkX3_22 rfl rfl hO hg rfl rfl (Nat.le_of_ble_eq_true rfl) dX3_init_22 (fun H4 L4 hO4 hz4 hq4 hE hS => ?_)
  have hO : OB E 4 [.int pa, .int lo, .int py, .int fi, .int 0, .int 0, .int 0, .int 0, .int 0, .int 0, .null, .null, .null] w H4 := hO4
  have hF := hF.put hz4 hq4 (fun _ => rfl)
  refine lv_aload_n hx hb dX3_init_25 rfl (lv_at hl 0 rfl) ?_
  refine lv_iload hx hb dX3_init_26 (lv_at hl 5 rfl) ?_
  refine pfF hx hb hts hown hin hE hS pkX3_25 rfl rfl hO hg rfl rfl (Nat.le_of_ble_eq_true rfl) dX3_init_28 (fun H5 L5 hO5 hz5 hq5 hE hS => ?_)
  have hO : OB E 4 [.int pa, .int lo, .int py, .int fi, .int fs, .int 0, .int 0, .int 0, .int 0, .int 0, .null, .null, .null] w H5 := hO5
  have hF := hF.put hz5 hq5 (fun _ => rfl)
  refine lv_aload_n hx hb dX3_init_31 rfl (lv_at hl 0 rfl) ?_
  refine lv_iload hx hb dX3_init_32 (lv_at hl 6 rfl) ?_
  refine pfF hx hb hts hown hin hE hS pkX3_28 rfl rfl hO hg rfl rfl (Nat.le_of_ble_eq_true rfl) dX3_init_34 (fun H6 L6 hO6 hz6 hq6 hE hS => ?_)
  have hO : OB E 4 [.int pa, .int lo, .int py, .int fi, .int fs, .int le, .int 0, .int 0, .int 0, .int 0, .null, .null, .null] w H6 := hO6
  have hF := hF.put hz6 hq6 (fun _ => rfl)
  refine lv_aload_n hx hb dX3_init_37 rfl (lv_at hl 0 rfl) ?_
  refine lv_iload hx hb dX3_init_38 (lv_at hl 7 rfl) ?_
  refine pfF hx hb hts hown hin hE hS pkX3_31 rfl rfl hO hg rfl rfl (Nat.le_of_ble_eq_true rfl) dX3_init_40 (fun H7 L7 hO7 hz7 hq7 hE hS => ?_)
  have hO : OB E 4 [.int pa, .int lo, .int py, .int fi, .int fs, .int le, .int pe, .int 0, .int 0, .int 0, .null, .null, .null] w H7 := hO7
  have hF := hF.put hz7 hq7 (fun _ => rfl)
  refine lv_aload_n hx hb dX3_init_43 rfl (lv_at hl 0 rfl) ?_
  refine lv_iconst (v := 0) hx hb dX3_init_44 (by decide) ?_
  refine pf hx hb hts hown hE hS pkX3_34 rfl hO hg rfl rfl (Nat.le_of_ble_eq_true rfl) dX3_init_45 (fun H8 L8 hO8 hz8 hq8 hE hS => ?_)
  have hO : OB E 4 [.int pa, .int lo, .int py, .int fi, .int fs, .int le, .int pe, .int 0, .int 0, .int 0, .null, .null, .null] w H8 := hO8
  have hF := hF.put hz8 hq8 (fun _ => rfl)
  refine lv_aload_n hx hb dX3_init_48 rfl (lv_at hl 0 rfl) ?_
  refine lv_iconst (v := 0) hx hb dX3_init_49 (by decide) ?_
  refine pf hx hb hts hown hE hS pkX3_37 rfl hO hg rfl rfl (Nat.le_of_ble_eq_true rfl) dX3_init_50 (fun H9 L9 hO9 hz9 hq9 hE hS => ?_)
  have hO : OB E 4 [.int pa, .int lo, .int py, .int fi, .int fs, .int le, .int pe, .int 0, .int 0, .int 0, .null, .null, .null] w H9 := hO9
  have hF := hF.put hz9 hq9 (fun _ => rfl)
  refine lv_aload_n hx hb dX3_init_53 rfl (lv_at hl 0 rfl) ?_
  refine lv_iconst (v := 0) hx hb dX3_init_54 (by decide) ?_
  refine pf hx hb hts hown hE hS pkX3_40 rfl hO hg rfl rfl (Nat.le_of_ble_eq_true rfl) dX3_init_55 (fun H10 L10 hO10 hz10 hq10 hE hS => ?_)
  have hO : OB E 4 [.int pa, .int lo, .int py, .int fi, .int fs, .int le, .int pe, .int 0, .int 0, .int 0, .null, .null, .null] w H10 := hO10
  have hF := hF.put hz10 hq10 (fun _ => rfl)
  refine lv_aload_n hx hb dX3_init_58 rfl (lv_at hl 0 rfl) ?_
  have hs0 : H10.size = H.size := by omega
  refine nw (fs := [.null]) hx hb hts hown hE hS nkX3_43 (fun j hj => by rcases (show j = 0 by omega) with rfl <;> rfl) (by omega) (by omega) dX3_init_59 (fun db H11 ea11 hD1 hz11 hq11 hE hS hg11 => ?_)
  have hO := pk3 hO hq11
  have hF := hF.new (by omega) hq11
  refine lv_dup hx hb dX3_init_62 rfl ?_
  refine gI hx hb hml hts hown hB hE hS kwX3_45 (c_dini E db .null H11 hD1 hg11) (Nat.le_of_ble_eq_true rfl) rfl hl.1 rfl (Nat.le_of_ble_eq_true rfl) (by omega) (by omega) dX3_init_63 (fun H12 L12 hG hz12 hE hS => ?_)
  obtain ⟨hD1, hL1, hG2, hz9_12⟩ := hG
  obtain ⟨dbl, eldb⟩ : ∃ z, z = H11.size := ⟨_, rfl⟩
  rw [← eldb] at hD1 hL1
  have hO := hG2.at hO (by omega)
  have hF := hF.tr hG2 (fun z hz h => by omega)
  refine pfF hx hb hts hown hin hE hS pkX3_46 rfl rfl hO hg rfl rfl (Nat.le_of_ble_eq_true rfl) dX3_init_66 (fun H13 L13 hO13 hz13 hq13 hE hS => ?_)
  have hO : OB E 4 [.int pa, .int lo, .int py, .int fi, .int fs, .int le, .int pe, .int 0, .int 0, .int 0, .ref db, .null, .null] w H13 := hO13
  have hD1 := pk2 hD1 hq13 (by omega)
  have hL1 := pk2 hL1 hq13 (by omega)
  have hF := hF.put hz13 hq13 (fun _ => rfl)
  refine lv_aload_n hx hb dX3_init_69 rfl (lv_at hl 0 rfl) ?_
  refine nw (fs := [.null]) hx hb hts hown hE hS nkX3_43 (fun j hj => by rcases (show j = 0 by omega) with rfl <;> rfl) (by omega) (by omega) dX3_init_70 (fun dh H14 ea14 hD2 hz14 hq14 hE hS hg14 => ?_)
  have hO := pk3 hO hq14
  have hD1 := pk3 hD1 hq14
  have hL1 := pk3 hL1 hq14
  have hF := hF.new (by omega) hq14
  refine lv_dup hx hb dX3_init_73 rfl ?_
  refine gI hx hb hml hts hown hB hE hS kwX3_45 (c_dini E dh .null H14 hD2 hg14) (Nat.le_of_ble_eq_true rfl) rfl hl.1 rfl (Nat.le_of_ble_eq_true rfl) (by omega) (by omega) dX3_init_74 (fun H15 L15 hG hz15 hE hS => ?_)
  obtain ⟨hD2, hL2, hG2, hz9_15⟩ := hG
  obtain ⟨dhl, eldh⟩ : ∃ z, z = H14.size := ⟨_, rfl⟩
  rw [← eldh] at hD2 hL2
  have hO := hG2.at hO (by omega)
  have hD1 := hG2.at hD1 (by omega)
  have hL1 := hG2.at hL1 (by omega)
  have hF := hF.tr hG2 (fun z hz h => by omega)
  refine pfF hx hb hts hown hin hE hS pkX3_50 rfl rfl hO hg rfl rfl (Nat.le_of_ble_eq_true rfl) dX3_init_77 (fun H16 L16 hO16 hz16 hq16 hE hS => ?_)
  have hO : OB E 4 [.int pa, .int lo, .int py, .int fi, .int fs, .int le, .int pe, .int 0, .int 0, .int 0, .ref db, .ref dh, .null] w H16 := hO16
  have hD1 := pk2 hD1 hq16 (by omega)
  have hL1 := pk2 hL1 hq16 (by omega)
  have hD2 := pk2 hD2 hq16 (by omega)
  have hL2 := pk2 hL2 hq16 (by omega)
  have hF := hF.put hz16 hq16 (fun _ => rfl)
  refine lv_aload_n hx hb dX3_init_80 rfl (lv_at hl 0 rfl) ?_
  refine lv_bipush (v := 11) hx hb dX3_init_81 (by decide) ?_
  refine naI (N' := 11) hx hb hts hE hS qw2_170 rfl (by omega) (by omega) (by omega) dX3_init_83 (fun bd H17 ea17 hA hz17 hq17 hE hS hg17 => ?_)
  have hO := pk3 hO hq17
  have hD1 := pk3 hD1 hq17
  have hL1 := pk3 hL1 hq17
  have hD2 := pk3 hD2 hq17
  have hL2 := pk3 hL2 hq17
  have hF := hF.new (by omega) hq17
  refine pfF hx hb hts hown hin hE hS pkX3_53 rfl rfl hO hg rfl rfl (Nat.le_of_ble_eq_true rfl) dX3_init_85 (fun H18 L18 hO18 hz18 hq18 hE hS => ?_)
  have hO : OB E 4 [.int pa, .int lo, .int py, .int fi, .int fs, .int le, .int pe, .int 0, .int 0, .int 0, .ref db, .ref dh, .ref bd] w H18 := hO18
  have hD1 := pk2 hD1 hq18 (by omega)
  have hL1 := pk2 hL1 hq18 (by omega)
  have hD2 := pk2 hD2 hq18 (by omega)
  have hL2 := pk2 hL2 hq18 (by omega)
  have hA := pk2 hA hq18 (by omega)
  have hF := hF.put hz18 hq18 (fun _ => rfl)
  have hEF := hE.2.2.2.1
  have hgB : eB E ≤ H.size := by rw [← hH]; exact hB
  refine cU hx hb hr hlk hB hS (by omega) (by omega) ⟨rfl, fun q => if q < H.size then ow q else if q = db then (L + 1, 0) else if q = dbl then (L + 1, 1) else if q = dh then (L + 2, 0) else if q = dhl then (L + 2, 1) else (L, 1), fun q h9 => if_pos h9, fun q h9 => ?_, ⟨db, dh, bd, hO, DRo.nil hD1 hL1 hEF ?_ (by omega) ?_ (by omega), DRo.nil hD2 hL2 hEF ?_ (by omega) ?_ (by omega), hA, ?_, ?_, hg, by omega⟩, hF⟩ dX3_init_88
  · (try dsimp only)
    rw [if_neg (Nat.not_lt.mpr h9)]
    repeat (split; · constructor <;> (dsimp only; omega))
    exact ⟨Nat.le_refl _, Nat.le_add_right _ _⟩
  · (try dsimp only)
    rw [if_neg (by omega), if_neg (by omega), if_pos rfl]
  · (try dsimp only)
    rw [if_neg (by omega), if_pos rfl]
  · (try dsimp only)
    rw [if_neg (by omega), if_neg (by omega), if_neg (by omega), if_neg (by omega), if_pos rfl]
  · (try dsimp only)
    rw [if_neg (by omega), if_neg (by omega), if_neg (by omega), if_pos rfl]
  · (try dsimp only)
    rw [if_pos hwl]; exact how
  · (try dsimp only)
    rw [if_neg (by omega), if_neg (by omega), if_neg (by omega), if_neg (by omega), if_neg (by omega)]

set_option maxRecDepth 100000 in
set_option maxHeartbeats 4000000 in
/-- Swap.rollDays -/
theorem c_rollDays (E : ET) (ow : Nat → Nat × Nat) (L w q db dh bd f le n : Nat) (T : Nat → Int32) (bf : Nat → Int32) (h0 h1 : Dy) (H : Heap) (hO : OB E 4 (tfs T db dh bd) w H) (hA : IA E 11 bf bd H) (hC : CRo E ow q h0 h1 H) (n0 : h0.length ≤ 20) (n1 : h1.length ≤ 20) (how : ow w = (L, 0)) (hobd : ow bd = (L, 1)) (hL : 10 ≤ L) (hg : eB E ≤ bd) (t4 : T 4 = nI f) (t5 : T 5 = nI le) (t6 : T 6 = nI n) (hf : f ≤ 1000) (hle : le ≤ 180) (hn : n ≤ 10) (hz0 : ∀ i, n < i → bf i = 0) : Con E yX3_rollDays cX3_rollDays 3 (none : Option FieldType) 8 0 0 [.ref w, .ref q] H (o1 none (fun H' => IA E 11 (bfC h0 h1 T) bd H' ∧ FR (fun q => q = bd) H H' ∧ H'.size = H.size)) := by
  refine Con.of (C := RX3) rfl (by decide +kernel) (Nat.le_of_ble_eq_true rfl) ?_
  intro p e s m below meth co ls hx hb hr hlk hml hown hts hin hE hH hS hl
  have hl : lv_has ls 3 [(0, .ref w), (1, .ref q)] := hl
  have hB : eB E ≤ s.heap.size := by rw [hH]; exact hE.2.1
  have hwb : w ≠ bd := fun e => by rw [e, hobd] at how; cases how
  have hBF := hE.2.2.1
  have hgB : eB E ≤ H.size := by rw [← hH]; exact hB
  refine lv_iconst (v := 0) hx hb dX3_rollDays_0 (by decide) ?_
  refine lv_istore_n (lv' := [(2, .int 0), (0, .ref w), (1, .ref q)]) hx hb dX3_rollDays_1 rfl hl (by decide) rfl (fun ls hl => ?_)
  have loop : ∀ (r i : Nat) (K : Heap) (locs : List Loc) (ls : Array Slot), i + r = n + 1 → IA E 11 (fun j => if j < i then nI (rol h0 h1 (f + j * le)) else bf j) bd K → FR (fun q => q = bd) H K → K.size = H.size → EV E s K → va_S (fr E) s.heap K locs → lv_has ls 3 [(2, .int (nI i)), (0, .ref w), (1, .ref q)] → W p (eL E) e (rmk 8 0 0) s m ([.ref w, .ref q]).toArray below meth co K locs 0 0 (MQ below (CQ E (o1 none (fun H' => IA E 11 (bfC h0 h1 T) bd H' ∧ FR (fun q => q = bd) H H' ∧ H'.size = H.size))) ([.ref w, .ref q]).toArray s 0 0 (fr E)) (F0 m 2 ls []) := by
    intro r
    induction r with
    | zero =>
      intro i K locs ls hi hA hF hz hE hS hl
      have hi2 : i = n + 1 := by omega
      have hO := hF.at hO hwb
      refine lv_iload_n hx hb dX3_rollDays_2 rfl (lv_at hl 0 rfl) ?_
      refine lv_aload_n hx hb dX3_rollDays_3 rfl (lv_at hl 1 rfl) ?_
      refine gf hx hb hts hown hE lkX3_31 hO rfl dX3_rollDays_4 ?_
      rw [t6]
      refine lv_icmp_gt (tgt := 46) hx hb dX3_rollDays_7 (by decide) (fun c1 => ?_) (fun c1 => ?_)
      rotate_left
      · exact absurd (nI_lt (by omega) (by omega)) c1
      refine cU hx hb hr hlk hB hS (by omega) (by omega) ⟨rfl, IA.ext hA (fun j hj => ?_), hF, hz⟩ dX3_rollDays_46
      by_cases c9 : j ≤ n
      · rw [if_pos (by omega), bfC_eq t4 t5 t6 (by omega) (by omega) (by omega) c9]
      · rw [if_neg (by omega), hz0 j (by omega)]
        unfold bfC
        rw [t6, nI_clamp (by omega), if_neg c9]
    | succ r ih =>
      intro i K locs ls hi hA hF hz hE hS hl
      have hO := hF.at hO hwb
      have hC2 : CRo E ow q h0 h1 K := hC.kept (fun z h9 => hF.2 z (by omega) (fun e => by omega)) hBF (fun z h9 h8 => hF.2 z h9 (fun e => by rw [e, hobd] at h8; simp at h8; omega)) (fun _ _ => rfl)
      obtain ⟨d0, d1, hq1, -⟩ := id hC2
      refine lv_iload_n hx hb dX3_rollDays_2 rfl (lv_at hl 0 rfl) ?_
      refine lv_aload_n hx hb dX3_rollDays_3 rfl (lv_at hl 1 rfl) ?_
      refine gf hx hb hts hown hE lkX3_31 hO rfl dX3_rollDays_4 ?_
      rw [t6]
      refine lv_icmp_gt (tgt := 46) hx hb dX3_rollDays_7 (by decide) (fun c1 => ?_) (fun c1 => ?_)
      · exact absurd c1 (nI_nlt (by omega) (by omega))
      refine lv_iload_n hx hb dX3_rollDays_10 rfl (lv_at hl 0 rfl) ?_
      refine lv_aload_n hx hb dX3_rollDays_11 rfl (lv_at hl 1 rfl) ?_
      refine gf hx hb hts hown hE lkX3_53 hO rfl dX3_rollDays_12 ?_
      refine aLI hx hb hE hA dX3_rollDays_15 ?_
      refine lv_icmp_ge (tgt := 46) hx hb dX3_rollDays_16 (by decide) (fun c2 => ?_) (fun c2 => ?_)
      · exact absurd c2 (show ¬ nI 11 ≤ nI i from nI_ge (by omega) (by decide))
      refine lv_aload_n hx hb dX3_rollDays_19 rfl (lv_at hl 1 rfl) ?_
      refine gf hx hb hts hown hE lkX3_53 hO rfl dX3_rollDays_20 ?_
      refine lv_iload_n hx hb dX3_rollDays_23 rfl (lv_at hl 0 rfl) ?_
      refine lv_aload_n hx hb dX3_rollDays_24 rfl (lv_at hl 2 rfl) ?_
      refine lv_aload_n hx hb dX3_rollDays_25 rfl (lv_at hl 1 rfl) ?_
      refine gf hx hb hts hown hE lkX3_25 hO rfl dX3_rollDays_26 ?_
      refine lv_iload_n hx hb dX3_rollDays_29 rfl (lv_at hl 0 rfl) ?_
      refine lv_aload_n hx hb dX3_rollDays_30 rfl (lv_at hl 1 rfl) ?_
      refine gf hx hb hts hown hE lkX3_28 hO rfl dX3_rollDays_31 ?_
      refine lv_imul hx hb dX3_rollDays_34 ?_
      refine lv_iadd hx hb dX3_rollDays_35 ?_
      have ek : i * le ≤ 10 * 180 := Nat.mul_le_mul (by omega) (by omega)
      rw [show T 4 + nI i * T 5 = nI (f + i * le) by rw [t4, t5, pk_mul, nI_add]]
      refine pV hx hb hml hts hown hE kwX3_57 (c_rol E q (f + i * le) h0 h1 K (by omega) (hC2.CR n0 n1)) hq1 rfl (Nat.le_of_ble_eq_true rfl) rfl hl.1 rfl (Nat.le_of_ble_eq_true rfl) (Nat.zero_le _) (Nat.zero_le _) dX3_rollDays_36 ?_
      refine asI hx hb hE hS hA hg  rfl (show i < 11 by omega) (by omega) dX3_rollDays_39 (fun H1 L1 hO1 hz1 hq1_ hE hS => ?_)
      have hA : IA E 11 (upd (fun j => if j < i then nI (rol h0 h1 (f + j * le)) else bf j) i (nI (rol h0 h1 (f + i * le)))) bd H1 := hO1
      refine lv_iinc (v := nI (i + 1)) (lv' := [(2, .int (nI (i + 1))), (0, .ref w), (1, .ref q)]) hx hb dX3_rollDays_40 hl (k := 0) rfl (nI_1 i) (by decide) rfl (fun ls hl => ?_)
      refine lv_goto (tgt := 2) hx hb dX3_rollDays_43 (by decide) ?_
      refine ih (i + 1) H1 L1 ls (by omega) (IA.ext hA (fun j hj => ?_)) (hF.put hz1 hq1_ (fun _ => rfl)) (by omega) hE hS (lv_sub hl [0, 1, 2] rfl)
      by_cases c9 : j = i
      · subst c9; rw [if_pos (by omega)]; simp [upd]
      · have e9 : (j < i + 1) ↔ (j < i) := by omega
        simp only [upd, if_neg c9, e9]
  exact loop (n + 1) 0 H [] ls (by omega) (IA.ext hA (fun j hj => by rw [if_neg (Nat.not_lt_zero j)])) FR.rf rfl hE hS (lv_sub hl [0, 1, 2] rfl)
