/-- a Diary as its writer sees it: the label of each of its cells begins with L -/
def DRo (E : ET) (ow : Nat → Nat × Nat) (L d : Nat) (es : Dy) (H : Heap) : Prop := ∃ (a : Nat) (ad : Nat → Nat), OB E 2 [.ref a] d H ∧ LRo E ow L a es.length ad H ∧ (∀ i x, es[i]? = some x → OB E 3 [.int x.1, .int x.2] (ad i) H ∧ ow (ad i) = (L, 3 + i) ∧ eB E ≤ ad i) ∧ ow d = (L, 0) ∧ eB E ≤ d
theorem LRo.kept {E : ET} {ow ow' : Nat → Nat × Nat} {L a c : Nat} {ad : Nat → Nat} {H H' : Heap} (h : LRo E ow L a c ad H) (hF : ∀ q, q < eB E → H'[q]? = H[q]?) (hB : eF E < eB E) (hq : ∀ q, q < H.size → ow q = (L, 1) ∨ ow q = (L, 2) → H'[q]? = H[q]?) (hw : ∀ q, q < H.size → ow' q = ow q) : LRo E ow' L a c ad H' := by
  obtain ⟨mo, arr, n, f, hO, hA, h1, h2, h3, h4, h5, h6⟩ := h
  have ha := plt hO
  have har := hA.lt
  refine ⟨mo, arr, n, f, pk1 hO (hq a ha (Or.inl h4)), ?_, h1, h2, h3, by rw [hw a ha]; exact h4, h5, ?_⟩
  · rcases h6 with ⟨e, -⟩ | ⟨e, -⟩
    · rw [e] at hA ⊢; exact hA.pk (hF _ hB)
    · exact hA.pk (hq arr har (Or.inr e))
  · rcases h6 with h6 | ⟨e, h7⟩
    · exact Or.inl h6
    · exact Or.inr ⟨by rw [hw arr har]; exact e, h7⟩
theorem DRo.kept {E : ET} {ow ow' : Nat → Nat × Nat} {L d : Nat} {es : Dy} {H H' : Heap} (h : DRo E ow L d es H) (hF : ∀ q, q < eB E → H'[q]? = H[q]?) (hB : eF E < eB E) (hq : ∀ q, q < H.size → (ow q).1 = L → H'[q]? = H[q]?) (hw : ∀ q, q < H.size → ow' q = ow q) : DRo E ow' L d es H' := by
  obtain ⟨a, ad, hO, hL, hEs, h1, h2⟩ := h
  refine ⟨a, ad, pk1 hO (hq d (plt hO) (by rw [h1])), hL.kept hF hB (fun q h9 h8 => hq q h9 (by rcases h8 with e | e <;> rw [e])) hw, fun i x hx => ?_, by rw [hw d (plt hO)]; exact h1, h2⟩
  obtain ⟨g1, g2, g3⟩ := hEs i x hx
  exact ⟨pk1 g1 (hq _ (plt g1) (by rw [g2])), by rw [hw _ (plt g1)]; exact g2, g3⟩
theorem DRo.DRx {E : ET} {ow : Nat → Nat × Nat} {L d : Nat} {es : Dy} {H : Heap} (h : DRo E ow L d es H) (hc : es.length < 2 ^ 29) : ∃ a ad, DRx E d a ad es H ∧ (∀ i x, es[i]? = some x → eB E ≤ ad i ∧ ow (ad i) = (L, 3 + i)) := by
  obtain ⟨a, ad, hO, hL, hEs, h1, h2⟩ := h
  exact ⟨a, ad, ⟨hO, hL.LR hc, fun i x hx => (hEs i x hx).1⟩, fun i x hx => ⟨(hEs i x hx).2.2, (hEs i x hx).2.1⟩⟩
theorem DRo.DR {E : ET} {ow : Nat → Nat × Nat} {L d : Nat} {es : Dy} {H : Heap} (h : DRo E ow L d es H) (hc : es.length < 2 ^ 29) : DR E d es H := by
  obtain ⟨a, ad, h1, -⟩ := h.DRx hc
  exact ⟨a, ad, h1⟩
/-- what a writer of one Diary says: the world's labels go on, new cells bear L, nothing else is changed -/
def DOut (E : ET) (ow : Nat → Nat × Nat) (L d : Nat) (es : Dy) (H H' : Heap) : Prop := ∃ ow' : Nat → Nat × Nat, (∀ q, q < H.size → ow' q = ow q) ∧ (∀ q, H.size ≤ q → (ow' q).1 = L) ∧ DRo E ow' L d es H' ∧ FR (fun q => (ow q).1 = L) H H'
def dPut (es : Dy) (day v : Int32) : Dy := match ixL day 0 es with
  | none => es ++ [(day, v)]
  | some j => es.set j (day, v)
theorem getq {α : Type} {l : List α} {i : Nat} (h : i < l.length) : ∃ x, l[i]? = some x := ⟨l[i], List.getElem?_eq_getElem h⟩
theorem ixL_at {d : Int32} : ∀ (es : Dy) (i j : Nat), ixL d i es = some j → i ≤ j ∧ ∃ x, es[j - i]? = some x ∧ x.1 = d
  | [], i, j, h => by simp [ixL] at h
  | x :: xs, i, j, h => by
    unfold ixL at h
    by_cases c : x.1 = d
    · rw [if_pos c] at h; cases h
      exact ⟨Nat.le_refl _, x, by simp, c⟩
    · rw [if_neg c] at h
      obtain ⟨h1, y, h2, h3⟩ := ixL_at xs (i + 1) j h
      refine ⟨by omega, y, ?_, h3⟩
      rw [show j - i = (j - (i + 1)) + 1 by omega, List.getElem?_cons_succ]
      exact h2
set_option maxRecDepth 100000 in
set_option maxHeartbeats 4000000 in
/-- Diary.add -/
theorem c_dadd (E : ET) (ow : Nat → Nat × Nat) (L d : Nat) (es : Dy) (day v : Int32) (H : Heap) (h : DRo E ow L d es H) (hcb : es.length ≤ 5000) : Con E yX1_add cX1_add 3 (none : Option FieldType) 8 2 (2 + (2 * es.length + 10)) [.ref d, .int day, .int v] H (o1 none (fun H' => DOut E ow L d (es ++ [(day, v)]) H H')) := by
  refine Con.of (C := RX1) rfl (by decide +kernel) (Nat.le_of_ble_eq_true rfl) ?_
  intro p e s m below meth co ls hx hb hr hlk hml hown hts hin hE hH hS hl
  have hl : lv_has ls 3 [(0, .ref d), (1, .int day), (2, .int v)] := hl
  have hB : eB E ≤ s.heap.size := by rw [hH]; exact hE.2.1
  obtain ⟨a, ad, hO, hL, hEs, hod, hgd⟩ := h
  have hBF := hE.2.2.1
  have hO0 := hO
  refine lv_aload_n hx hb dX1_add_0 rfl (lv_at hl 0 rfl) ?_
  refine gf hx hb hts hown hE lkX1_12 hO rfl dX1_add_1 ?_
  refine nw (fs := [.int 0, .int 0]) hx hb hts hown hE hS nkX1_26 (fun j hj => by rcases (show j = 0 ∨ j = 1 by omega) with rfl | rfl <;> rfl) (by omega) (by omega) dX1_add_4 (fun q H1 ea1 hN hz1 hq1 hE hS hg1 => ?_)
  have hO := pk3 hO hq1
  refine lv_dup hx hb dX1_add_7 rfl ?_
  refine lv_iload_n hx hb dX1_add_8 rfl (lv_at hl 1 rfl) ?_
  refine lv_iload_n hx hb dX1_add_9 rfl (lv_at hl 2 rfl) ?_
  refine gI hx hb hml hts hown hB hE hS kwX1_28 (c_eini E q day v 0 0 H1 hN hg1) (Nat.le_of_ble_eq_true rfl) rfl hl.1 rfl (Nat.le_of_ble_eq_true rfl) (by omega) (by omega) dX1_add_10 (fun H2 L2 hG hz2 hE hS => ?_)
  obtain ⟨hN, hG2, hz9⟩ := hG
  have hqn : ∀ z, z < H.size → H2[z]? = H[z]? := fun z hz => (hG2.2 z (by omega) (by omega)).trans (hq1 z hz)
  have hL2 : LRo E (owx ow H (L, 3 + es.length)) L a es.length ad H2 := hL.kept (fun z hz => hqn z (Nat.lt_of_lt_of_le hz (by rw [← hH]; exact hB))) hBF (fun z hz _ => hqn z hz) (fun z hz => owx_old hz)
  have hoq : owx ow H (L, 3 + es.length) q = (L, 3 + es.length) := owx_new (by omega)
  obtain ⟨fsa, hOa⟩ : ∃ fs, OB E 0 fs a H2 := by obtain ⟨mo, arr, n, f, h1, -⟩ := hL2; exact ⟨_, h1⟩
  have hoa : ow a = (L, 1) := by obtain ⟨mo, arr, n, f, h1, h2, h3, h4, h5, h6, -⟩ := hL; exact h6
  refine gV hx hb hml hts hown hB hE hS kwX1_31 (c_add E (owx ow H (L, 3 + es.length)) L a q es.length ad 3 [.int day, .int v] RX2 TX2 2 H2 hL2 (by omega) hN rfl (by decide) (fun i hi => ?_) (by rw [hoq]; constructor <;> (show 3 + es.length ≠ _; omega)) (fun i hi e9 => ?_)) hOa rfl (Nat.le_of_ble_eq_true rfl) rfl hl.1 rfl (Nat.le_of_ble_eq_true rfl) (by omega) (by omega) dX1_add_13 (fun H3 L3 hG hz3 hE hS => ?_)
  · obtain ⟨x9, hx9⟩ := getq hi
    exact ⟨_, pk1 (hEs i x9 hx9).1 (hqn _ (plt (hEs i x9 hx9).1))⟩
  · obtain ⟨x9, hx9⟩ := getq hi
    have := (hEs i x9 hx9).2.1
    rw [e9, hoa] at this
    have := congrArg (fun z : Nat × Nat => z.2) this
    simp at this
    omega
  obtain ⟨hL3, hF3⟩ := hG
  refine lv_pop hx hb dX1_add_16 rfl ?_
  have hfin : ∀ z, z < H.size → (ow z).1 ≠ L ∨ (ow z).2 = 0 ∨ 3 ≤ (ow z).2 → H3[z]? = H[z]? := fun z hz hn => (hF3.2 z (by omega) (by show ¬ (owx ow H (L, 3 + es.length) z = (L, 1) ∨ owx ow H (L, 3 + es.length) z = (L, 2)); rw [owx_old hz]; rintro (e | e) <;> rw [e] at hn <;> simp at hn)).trans (hqn z hz)
  refine cU hx hb hr hlk hB hS (by omega) (by omega) ⟨rfl, owx (owx ow H (L, 3 + es.length)) H2 (L, 2), fun z hz => by rw [owx_old (by omega), owx_old hz], fun z hz => ?_, ⟨a, va_up ad es.length q, pk1 hO0 (hfin d (plt hO0) (Or.inr (Or.inl (by rw [hod])))), by rw [List.length_append]; exact hL3, fun i x hx9 => ?_, by rw [owx_old (by have := plt hO0; omega), owx_old (plt hO0)]; exact hod, hgd⟩, ⟨by omega, fun z hz hn => hfin z hz (Or.inl hn)⟩⟩ dX1_add_17
  · by_cases c9 : z < H2.size
    · rw [owx_old c9, owx_new hz]
    · rw [owx_new (by omega)]
  · by_cases c9 : i < es.length
    · rw [List.getElem?_append_left c9] at hx9
      obtain ⟨g1, g2, g3⟩ := hEs i x hx9
      have e9 : va_up ad es.length q i = ad i := by simp only [va_up, if_neg (Nat.ne_of_lt c9)]
      have hl9 := plt g1
      rw [e9]
      exact ⟨pk1 g1 (hfin _ hl9 (Or.inr (Or.inr (by rw [g2]; show 3 ≤ 3 + i; omega)))), by rw [owx_old (by omega), owx_old hl9]; exact g2, g3⟩
    · rw [List.getElem?_append_right (by omega)] at hx9
      have hi0 : i - es.length < 1 := (List.getElem?_eq_some_iff.mp hx9).1
      have hi1 : i = es.length := by omega
      subst hi1
      rw [Nat.sub_self] at hx9
      cases hx9
      have e9 : va_up ad es.length q es.length = q := by simp [va_up]
      rw [e9]
      exact ⟨hF3.at hN (by show ¬ (owx ow H (L, 3 + es.length) q = (L, 1) ∨ owx ow H (L, 3 + es.length) q = (L, 2)); rw [hoq]; rintro (e | e) <;> (have := congrArg (fun z : Nat × Nat => z.2) e; simp at this; omega)), by rw [owx_old (by omega)]; exact hoq, hg1⟩

set_option maxRecDepth 100000 in
set_option maxHeartbeats 4000000 in
/-- Diary.put -/
theorem c_dput (E : ET) (ow : Nat → Nat × Nat) (L d : Nat) (es : Dy) (day v : Int32) (H : Heap) (h : DRo E ow L d es H) (hcb : es.length ≤ 5000) : Con E yX1_put cX1_put 4 (none : Option FieldType) 9 2 (2 + (2 * es.length + 10)) [.ref d, .int day, .int v] H (o1 none (fun H' => DOut E ow L d (dPut es day v) H H')) := by
  refine Con.of (C := RX1) rfl (by decide +kernel) (Nat.le_of_ble_eq_true rfl) ?_
  intro p e s m below meth co ls hx hb hr hlk hml hown hts hin hE hH hS hl
  have hl : lv_has ls 4 [(0, .ref d), (1, .int day), (2, .int v)] := hl
  have hB : eB E ≤ s.heap.size := by rw [hH]; exact hE.2.1
  have hh := h
  obtain ⟨a, ad, hO, hL, hEs, hod, hgd⟩ := hh
  have hD : DRx E d a ad es H := ⟨hO, hL.LR (by omega), fun i x hx => (hEs i x hx).1⟩
  have hM := c_entryOf E d a ad es day H hD
  cases hix : ixL day 0 es with
  | none =>
    rw [hix] at hM
    refine lv_aload_n hx hb dX1_put_0 rfl (lv_at hl 0 rfl) ?_
    refine lv_iload_n hx hb dX1_put_1 rfl (lv_at hl 1 rfl) ?_
    refine pV hx hb hml hts hown hE kwX1_22 hM hO rfl (Nat.le_of_ble_eq_true rfl) rfl hl.1 rfl (Nat.le_of_ble_eq_true rfl) (Nat.zero_le _) (Nat.zero_le _) dX1_put_2 ?_
    refine lv_astore_nN (lv' := [(3, .null), (0, .ref d), (1, .int day), (2, .int v)]) hx hb dX1_put_5 rfl hl (by decide) rfl (fun ls hl => ?_)
    refine lv_aload_nN hx hb dX1_put_6 rfl (lv_at hl 0 rfl) ?_
    refine lv_ifnonnullN hx hb dX1_put_7 ?_
    refine lv_aload_n hx hb dX1_put_10 rfl (lv_at hl 1 rfl) ?_
    refine lv_iload_n hx hb dX1_put_11 rfl (lv_at hl 2 rfl) ?_
    refine lv_iload_n hx hb dX1_put_12 rfl (lv_at hl 3 rfl) ?_
    refine gVU hx hb hml hts hown hB hE hS kwX1_35 (c_dadd E ow L d es day v H h hcb) hO rfl (Nat.le_of_ble_eq_true rfl) rfl hl.1 rfl (Nat.le_of_ble_eq_true rfl) (by omega) (by omega) dX1_put_13 (fun H1 L1 hG hz1 hE hS => ?_)
    refine lv_goto (tgt := 24) hx hb dX1_put_16 (by decide) ?_
    exact cU hx hb hr hlk hB hS (by omega) (by omega) (⟨rfl, by unfold dPut; rw [hix]; exact hG⟩) dX1_put_24
  | some j =>
    rw [hix] at hM
    refine lv_aload_n hx hb dX1_put_0 rfl (lv_at hl 0 rfl) ?_
    refine lv_iload_n hx hb dX1_put_1 rfl (lv_at hl 1 rfl) ?_
    refine pV hx hb hml hts hown hE kwX1_22 hM hO rfl (Nat.le_of_ble_eq_true rfl) rfl hl.1 rfl (Nat.le_of_ble_eq_true rfl) (Nat.zero_le _) (Nat.zero_le _) dX1_put_2 ?_
    obtain ⟨-, x9, hx9, hx8⟩ := ixL_at es 0 j hix
    rw [Nat.sub_zero] at hx9
    obtain ⟨hN, hoj, hgj⟩ := hEs j x9 hx9
    refine lv_astore_n (lv' := [(3, .ref (ad j)), (0, .ref d), (1, .int day), (2, .int v)]) hx hb dX1_put_5 rfl hl (by decide) rfl (fun ls hl => ?_)
    refine lv_aload_n hx hb dX1_put_6 rfl (lv_at hl 0 rfl) ?_
    refine lv_ifnonnull (tgt := 19) hx hb dX1_put_7 (by decide) ?_
    refine lv_aload_n hx hb dX1_put_19 rfl (lv_at hl 0 rfl) ?_
    refine lv_iload_n hx hb dX1_put_20 rfl (lv_at hl 3 rfl) ?_
    have hBF := hE.2.2.1
    have hF : FR (fun q => (ow q).1 = L) H H := FR.rf
    refine pf hx hb hts hown hE hS pkX1_37 rfl hN hgj rfl rfl (Nat.le_of_ble_eq_true rfl) dX1_put_21 (fun H1 L1 hO1 hz1 hq1 hE hS => ?_)
    have hN : OB E 3 [.int x9.1, .int v] (ad j) H1 := hO1
    have hF := hF.put hz1 hq1 (fun _ => by rw [hoj])
    have hne : ∀ q, q < H.size → ow q ≠ (L, 3 + j) → H1[q]? = H[q]? := fun q _ h9 => hq1 q (fun e => h9 (by rw [e]; exact hoj))
    have hjl : j < es.length := (List.getElem?_eq_some_iff.mp hx9).1
    refine cU hx hb hr hlk hB hS (by omega) (by omega) ⟨rfl, owx ow H (L, 0), fun q h9 => owx_old h9, fun q h9 => by rw [owx_new h9], ?_, hF⟩ dX1_put_24
    unfold dPut
    rw [hix]
    refine ⟨a, ad, pk1 hO (hne d (plt hO) (by rw [hod]; intro e; have := congrArg (fun z : Nat × Nat => z.2) e; simp at this; omega)), ?_, fun i x hx7 => ?_, by rw [owx_old (plt hO)]; exact hod, hgd⟩
    · rw [List.length_set]
      exact hL.kept (fun q hq9 => hq1 q (fun e => by omega)) hBF (fun q hq9 h9 => hne q hq9 (by rcases h9 with e | e <;> (rw [e]; intro e2; have := congrArg (fun z : Nat × Nat => z.2) e2; simp at this; omega))) (fun q h9 => owx_old h9)
    · by_cases c9 : i = j
      · subst c9
        rw [List.getElem?_set_self hjl] at hx7
        cases hx7
        have hN0 := (hEs i x9 hx9).1
        exact ⟨by rw [← hx8]; exact hN, by rw [owx_old (plt hN0)]; exact hoj, hgj⟩
      · rw [List.getElem?_set_ne (fun e => c9 e.symm)] at hx7
        obtain ⟨g1, g2, g3⟩ := hEs i x hx7
        exact ⟨pk1 g1 (hne _ (plt g1) (by rw [g2]; intro e; have := congrArg (fun z : Nat × Nat => z.2) e; simp at this; omega)), by rw [owx_old (plt g1)]; exact g2, g3⟩
