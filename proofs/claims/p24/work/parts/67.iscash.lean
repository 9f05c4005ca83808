/-! breaks, isCash -/
theorem span_ok {pa a b : Nat} (hp : pa ≤ 3) (h1 : a ≤ b) (h2 : b ≤ a + 400) (h3 : b ≤ 3100) : cdSpan (nI pa) (nI a) (nI b) = 0 := by
  have e1 : inB (nI pa) 0 3 = true := inB_of (a := 0) (b := 3) (Nat.zero_le _) hp (by decide)
  have e2 : inB (nI a) 0 3100 = true := inB_of (a := 0) (b := 3100) (Nat.zero_le _) (by omega) (by decide)
  have e3 : inB (nI b) (nI a) (if nI a + 400 < 3100 then nI a + 400 else 3100) = true := by
    have e4 : nI a + 400 = nI (a + 400) := nI_add a 400
    rw [e4]
    by_cases c : nI (a + 400) < 3100
    · rw [if_pos c]; exact inB_of h1 h2 (by omega)
    · rw [if_neg c]; exact inB_of (b := 3100) h1 h3 (by decide)
  unfold cdSpan
  rw [if_neg (by rw [e1]; decide), if_pos ⟨e2, e3⟩]
/-- the sums of the first i parties -/
def allS (h0 h1 fx : Dy) (d1 d2 : Int32) (ts : List TR) : Nat → Int64
  | 0 => 0
  | i + 1 => allS h0 h1 fx d1 d2 ts i + sumS h0 h1 fx (nI i) d1 d2 0 ts
theorem allS_4 {h0 h1 fx : Dy} {d1 d2 : Int32} {ts : List TR} (h : ∀ tr ∈ ts, HV tr) : allS h0 h1 fx d1 d2 ts 4 = pdL h0 h1 fx d1 d2 ts := by
  show 0 + sumS h0 h1 fx 0 d1 d2 0 ts + sumS h0 h1 fx 1 d1 d2 0 ts + sumS h0 h1 fx 2 d1 d2 0 ts + sumS h0 h1 fx 3 d1 d2 0 ts = _
  rw [Int64.zero_add]
  exact cash4 ts h
theorem pdS_in {T : Nat → Int32} {bs : Dy} {bf : Nat → Int32} {fx : Dy} {d1 d2 : Int32} {k : Nat} (f : Int64) (h1 : ¬ bf (k + 1) < d1) (h2 : ¬ d2 < bf (k + 1)) : f + pdS T bs bf fx d1 d2 k + flwS T bs bf fx k = f + pdS T bs bf fx d1 d2 (k + 1) := by
  show _ = f + (if d1 ≤ bf (k + 1) ∧ bf (k + 1) ≤ d2 then pdS T bs bf fx d1 d2 k + flwS T bs bf fx k else pdS T bs bf fx d1 d2 k)
  rw [if_pos ⟨Int32.not_lt.mp h1, Int32.not_lt.mp h2⟩, Int64.add_assoc]
theorem pdS_out {T : Nat → Int32} {bs : Dy} {bf : Nat → Int32} {fx : Dy} {d1 d2 : Int32} {k : Nat} (f : Int64) (h : bf (k + 1) < d1 ∨ d2 < bf (k + 1)) : f + pdS T bs bf fx d1 d2 k + 0 = f + pdS T bs bf fx d1 d2 (k + 1) := by
  show _ = f + (if d1 ≤ bf (k + 1) ∧ bf (k + 1) ≤ d2 then pdS T bs bf fx d1 d2 k + flwS T bs bf fx k else pdS T bs bf fx d1 d2 k)
  rw [if_neg (fun q => h.elim (fun r => absurd r (Int32.not_lt.mpr q.1)) (fun r => absurd r (Int32.not_lt.mpr q.2))), Int64.add_zero]
theorem i32_gt {a b : Int32} (h : a > b) : b < a := h
theorem XR.ob {E : ET} {ow : Nat → Nat × Nat} {x : Nat} {h0 h1 fx : Dy} {ts : List TR} {H : Heap} (h : XR E ow x h0 h1 fx ts H) : ∃ fs, OB E 5 fs x H := ⟨_, h.choose_spec.choose_spec.choose_spec.choose_spec.1⟩
theorem HV.in {tr : TR} (h : HV tr) (day : Int32) : inB (hldS tr.1 tr.2.2 day) 0 3 = true := by
  rcases h.p day with e | e | e | e <;> rw [e] <;> decide
set_option maxRecDepth 100000 in
set_option maxHeartbeats 4000000 in
/-- breaks -/
theorem c_breaks (E : ET) (ow : Nat → Nat × Nat) (x : Nat) (h0 h1 fx : Dy) (ts : List TR) (t M had : Nat) (tr : TR) (d lo : Int32) (H : Heap) (hX : XR E ow x h0 h1 fx ts H) (hV : SV h0 h1 fx ts) (hK : BL ts) (hM : ∀ tr ∈ ts, tr.2.1.length ≤ M) (hM5 : M ≤ 4000) (ht : ts[t]? = some tr) (hcd : cdBrk ts (nI t) d lo = 0) (hd : d ≤ bfC h0 h1 tr.1 (np tr - 1)) : Con E yL_breaks cL_breaks 7 (some FieldType.boolean) 11 8 (80 + 2 * M) [.ref x, .int (nI t), .int d, .int lo, .int (lotS tr.1 tr.2.1 (bfC h0 h1 tr.1) (np tr - 1)), .int (nI (np tr))] H (o1 (some (.int 1)) (fun H' => XOut E ow x h0 h1 fx (ts.set t (brT tr d lo)) H H')) := by
  refine Con.of (C := RL) rfl (by decide +kernel) (Nat.le_of_ble_eq_true rfl) ?_
  intro p e s m below meth co ls hx hb hr hlk hml hown hts hin hE hH hS hl
  have hl : lv_has ls 7 [(0, .ref x), (1, .int (nI t)), (2, .int d), (3, .int lo), (4, .int (lotS tr.1 tr.2.1 (bfC h0 h1 tr.1) (np tr - 1))), (5, .int (nI (np tr)))] := hl
  have hB : eB E ≤ s.heap.size := by rw [hH]; exact hE.2.1
  obtain ⟨fs, hO⟩ := hX.ob
  have hlt := lt_of_get ht
  have htn := hV.tn
  obtain ⟨n6, n1, n10⟩ := (hV.tv ht).n
  refine lv_aload_n hx hb dL_breaks_0 rfl (lv_at hl 0 rfl) ?_
  refine lv_iload_n hx hb dL_breaks_1 rfl (lv_at hl 1 rfl) ?_
  refine lv_iload_n hx hb dL_breaks_2 rfl (lv_at hl 2 rfl) ?_
  refine lv_iload_n hx hb dL_breaks_3 rfl (lv_at hl 3 rfl) ?_
  refine gV hx hb hml hts hown hB hE hS kwL_87 (n_brk hX hV hK hM (by omega) ht hcd) hO rfl (Nat.le_of_ble_eq_true rfl) rfl hl.1 rfl (Nat.le_of_ble_eq_true rfl) (by omega) (by omega) dL_breaks_4 (fun H1 L1 hG hz1 hE hS => ?_)
  obtain ⟨hVn, -⟩ := sv_brk hV rfl ht hcd
  have hXo := hG
  obtain ⟨ow2, e1, e2, hX2, hF2⟩ := hG
  have hKn : BL (ts.set t (brT tr d lo)) := fun y hy => by
    rcases List.mem_or_eq_of_mem_set hy with hy | e9
    · exact hK y hy
    · rw [e9]; have := hM tr (List.mem_of_getElem? ht); show (tr.2.1 ++ [(d, lo)]).length ≤ 5000; rw [List.length_append]; show tr.2.1.length + 1 ≤ 5000; omega
  have htn2 : (ts.set t (brT tr d lo))[t]? = some (brT tr d lo) := List.getElem?_set_self hlt
  obtain ⟨fs2, hO2⟩ := hX2.ob
  have hMt := hM tr (List.mem_of_getElem? ht)
  refine lv_istore (lv' := [(6, .int (nI (tr.2.1.length + 1))), (0, .ref x), (1, .int (nI t)), (2, .int d), (3, .int lo), (4, .int (lotS tr.1 tr.2.1 (bfC h0 h1 tr.1) (np tr - 1))), (5, .int (nI (np tr)))]) hx hb dL_breaks_7 hl (by decide) rfl (fun ls hl => ?_)
  refine lv_iload hx hb dL_breaks_9 (lv_at hl 0 rfl) ?_
  refine lv_iconst (v := 1) hx hb dL_breaks_11 (by decide) ?_
  refine lv_icmp_lt (tgt := 35) hx hb dL_breaks_12 (by decide) (fun c9 => ?_) (fun c9 => ?_)
  · exact absurd c9 (nI_nlt (a := tr.2.1.length + 1) (b := 1) (by omega) (by omega))
  refine lv_aload_n hx hb dL_breaks_15 rfl (lv_at hl 1 rfl) ?_
  refine lv_iload_n hx hb dL_breaks_16 rfl (lv_at hl 2 rfl) ?_
  refine lv_iload hx hb dL_breaks_17 (lv_at hl 6 rfl) ?_
  refine lv_iconst (v := 1) hx hb dL_breaks_19 (by decide) ?_
  refine lv_isub hx hb dL_breaks_20 ?_
  rw [show nI (np tr) - 1 = nI (np tr - 1) from nI_sub (b := 1) n1]
  refine gV hx hb hml hts hown hB hE hS kwL_39 (n_lots hX2 hVn hKn htn2 (k := np tr - 1) (by show np tr - 1 < np tr; omega)) hO2 rfl (Nat.le_of_ble_eq_true rfl) rfl hl.1 rfl (Nat.le_of_ble_eq_true rfl) (by omega) (by omega) dL_breaks_21 (fun H2 L2 hG hz2 hE hS => ?_)
  have hG := hG.symm
  subst hG
  refine lv_iload hx hb dL_breaks_24 (lv_at hl 5 rfl) ?_
  refine lv_iload_n hx hb dL_breaks_26 rfl (lv_at hl 4 rfl) ?_
  refine lv_isub hx hb dL_breaks_27 ?_
  refine lv_icmp_ne (tgt := 35) hx hb dL_breaks_28 (by decide) (fun c8 => ?_) (fun c8 => ?_)
  · exact absurd (by show lotS tr.1 (tr.2.1 ++ [(d, lo)]) (bfC h0 h1 tr.1) (np tr - 1) = _; rw [lot_br, if_pos hd]) c8
  refine lv_iconst (v := 1) hx hb dL_breaks_31 (by decide) ?_
  refine lv_goto (tgt := 36) hx hb dL_breaks_32 (by decide) ?_
  exact cZ hx hb hr hlk hB hS (by omega) (by omega) (Or.inr rfl) (⟨rfl, hXo⟩) dL_breaks_36

set_option maxRecDepth 100000 in
set_option maxHeartbeats 4000000 in
/-- isCash -/
theorem c_isCash (E : ET) (ow : Nat → Nat × Nat) (x : Nat) (h0 h1 fx : Dy) (ts : List TR) (pe a b : Nat) (pf : Nat → Int32) (H : Heap) (hX : XR E ow x h0 h1 fx ts H) (hV : SV h0 h1 fx ts) (hK : BL ts) (hHV : ∀ tr ∈ ts, HV tr) (hA : IA E 10 pf pe H) (hpf : ∀ t tr, ts[t]? = some tr → pf t = nI (np tr)) (hab : a ≤ b) (hb4 : b ≤ a + 400) (hb3 : b ≤ 3000) : Con E yL_isCash cL_isCash 12 (some FieldType.boolean) 11 900 5400 [.ref x, .ref pe, .int (nI a), .int (nI b)] H (o1 (some (.int 1)) (fun H' => H' = H)) := by
  refine Con.of (C := RL) rfl (by decide +kernel) (Nat.le_of_ble_eq_true rfl) ?_
  intro p e s m below meth co ls hx hb hr hlk hml hown hts hin hE hH hS hl
  have hl : lv_has ls 12 [(0, .ref x), (1, .ref pe), (2, .int (nI a)), (3, .int (nI b))] := hl
  have hB : eB E ≤ s.heap.size := by rw [hH]; exact hE.2.1
  obtain ⟨fs, hO⟩ := hX.ob
  have htn := hV.tn
  refine lv_lconst (v := 0) hx hb dL_isCash_0 (by decide) ?_
  refine lv_lstore (lv' := [(4, .long 0), (0, .ref x), (1, .ref pe), (2, .int (nI a)), (3, .int (nI b))]) hx hb dL_isCash_1 hl (by decide) rfl (fun ls hl => ?_)
  refine lv_lconst (v := 0) hx hb dL_isCash_3 (by decide) ?_
  refine lv_lstore (lv' := [(6, .long 0), (4, .long 0), (0, .ref x), (1, .ref pe), (2, .int (nI a)), (3, .int (nI b))]) hx hb dL_isCash_4 hl (by decide) rfl (fun ls hl => ?_)
  refine lv_iconst (v := 1) hx hb dL_isCash_6 (by decide) ?_
  refine lv_istore (lv' := [(8, .int 1), (6, .long 0), (4, .long 0), (0, .ref x), (1, .ref pe), (2, .int (nI a)), (3, .int (nI b))]) hx hb dL_isCash_7 hl (by decide) rfl (fun ls hl => ?_)
  refine lv_iconst (v := 0) hx hb dL_isCash_9 (by decide) ?_
  refine lv_istore (lv' := [(9, .int 0), (8, .int 1), (6, .long 0), (4, .long 0), (0, .ref x), (1, .ref pe), (2, .int (nI a)), (3, .int (nI b))]) hx hb dL_isCash_10 hl (by decide) rfl (fun ls hl => ?_)
  have hal : allS h0 h1 fx (nI a) (nI b) ts 4 = pdL h0 h1 fx (nI a) (nI b) ts := allS_4 hHV
  have loop2 : ∀ (us : List TR) (i c9 s9 : Nat) (f : Int64) (locs : List Loc) (ls : Array Slot), ts.drop i = us → i ≤ ts.length → pdL h0 h1 fx (nI a) (nI b) ts = f + pdL h0 h1 fx (nI a) (nI b) us → c9 + 80 * us.length ≤ 900 → s9 + 480 * us.length ≤ 5400 → va_S (fr E) s.heap H locs → lv_has ls 12 [(0, .ref x), (1, .ref pe), (2, .int (nI a)), (3, .int (nI b)), (4, .long (pdL h0 h1 fx (nI a) (nI b) ts)), (6, .long f), (8, .int 1), (9, .int (nI i))] → W p (eL E) e (rmk 11 900 5400) s m ([.ref x, .ref pe, .int (nI a), .int (nI b)]).toArray below meth co H locs c9 s9 (MQ below (CQ E (o1 (some (.int 1)) (fun H' => H' = H))) ([.ref x, .ref pe, .int (nI a), .int (nI b)]).toArray s 900 5400 (fr E)) (F0 m 70 ls []) := by
    intro us
    induction us with
    | nil =>
      intro i c9 s9 f locs ls hd hi he hc hs hS hl
      have hi2 := drop_n hd hi
      refine lv_iload hx hb dL_isCash_70 (lv_at hl 7 rfl) ?_
      refine lv_aload_n hx hb dL_isCash_72 rfl (lv_at hl 0 rfl) ?_
      refine pV hx hb hml hts hown hE kwL_17 (c_xtrades E ow x h0 h1 fx ts H hX hV hK) hO rfl (Nat.le_of_ble_eq_true rfl) rfl hl.1 rfl (Nat.le_of_ble_eq_true rfl) (by omega) (by omega) dL_isCash_73 ?_
      refine lv_icmp_ge (tgt := 185) hx hb dL_isCash_76 (by decide) (fun q1 => ?_) (fun q1 => ?_)
      rotate_left
      · exact absurd (nI_le (by omega) (by omega)) q1
      refine lv_iload hx hb dL_isCash_185 (lv_at hl 6 rfl) ?_
      refine lv_if_eq (tgt := 202) hx hb dL_isCash_187 (by decide) (fun q2 => ?_) (fun q2 => ?_)
      · exact absurd q2 (by decide)
      refine lv_lload hx hb dL_isCash_190 (lv_at hl 4 rfl) ?_
      refine lv_lload hx hb dL_isCash_192 (lv_at hl 5 rfl) ?_
      refine W.lcmp hx hb dL_isCash_194 ?_
      refine lv_if_ne (tgt := 202) hx hb dL_isCash_195 (by decide) (fun q3 => ?_) (fun q3 => ?_)
      · exact absurd (lcmp_eq0.mpr (by rw [he]; exact Int64.add_zero f)) q3
      refine lv_iconst (v := 1) hx hb dL_isCash_198 (by decide) ?_
      refine lv_goto (tgt := 203) hx hb dL_isCash_199 (by decide) ?_
      have hc : c9 ≤ 900 := by omega
      have hs : s9 ≤ 5400 := by omega
      exact cZ hx hb hr hlk hB hS (by omega) (by omega) (Or.inr rfl) (⟨rfl, rfl⟩) dL_isCash_203
    | cons tr us ih =>
      intro i c9 s9 f locs ls hd hi he hc hs hS hl
      obtain ⟨ht, hlt, hd2⟩ := drop_c hd
      rw [List.length_cons] at hc hs
      have hT := hV.tv ht
      obtain ⟨n6, n1, n10⟩ := hT.n
      have hH := hHV tr (List.mem_of_getElem? ht)
      have hpt := hpf i tr ht
      refine lv_iload hx hb dL_isCash_70 (lv_at hl 7 rfl) ?_
      refine lv_aload_n hx hb dL_isCash_72 rfl (lv_at hl 0 rfl) ?_
      refine pV hx hb hml hts hown hE kwL_17 (c_xtrades E ow x h0 h1 fx ts H hX hV hK) hO rfl (Nat.le_of_ble_eq_true rfl) rfl hl.1 rfl (Nat.le_of_ble_eq_true rfl) (by omega) (by omega) dL_isCash_73 ?_
      refine lv_icmp_ge (tgt := 185) hx hb dL_isCash_76 (by decide) (fun q1 => ?_) (fun q1 => ?_)
      · exact absurd q1 (nI_ge hlt (by omega))
      refine lv_iconst (v := 0) hx hb dL_isCash_79 (by decide) ?_
      refine lv_istore (lv' := [(10, .int 0), (0, .ref x), (1, .ref pe), (2, .int (nI a)), (3, .int (nI b)), (4, .long (pdL h0 h1 fx (nI a) (nI b) ts)), (6, .long f), (8, .int 1), (9, .int (nI i))]) hx hb dL_isCash_80 hl (by decide) rfl (fun ls hl => ?_)
      have loop3 : ∀ (r k c8 s8 : Nat) (locs : List Loc) (ls : Array Slot), k + r = np tr → c8 + 8 * r ≤ c9 + 80 → s8 + 48 * r ≤ s9 + 480 → va_S (fr E) s.heap H locs → lv_has ls 12 [(0, .ref x), (1, .ref pe), (2, .int (nI a)), (3, .int (nI b)), (4, .long (pdL h0 h1 fx (nI a) (nI b) ts)), (6, .long (f + pdS tr.1 tr.2.1 (bfC h0 h1 tr.1) fx (nI a) (nI b) k)), (8, .int 1), (9, .int (nI i)), (10, .int (nI k))] → W p (eL E) e (rmk 11 900 5400) s m ([.ref x, .ref pe, .int (nI a), .int (nI b)]).toArray below meth co H locs c8 s8 (MQ below (CQ E (o1 (some (.int 1)) (fun H' => H' = H))) ([.ref x, .ref pe, .int (nI a), .int (nI b)]).toArray s 900 5400 (fr E)) (F0 m 82 ls []) := by
        intro r
        induction r with
        | zero =>
          intro k c8 s8 locs ls hk h8 h7 hS hl
          have hk : k = np tr := hk
          refine lv_iload hx hb dL_isCash_82 (lv_at hl 8 rfl) ?_
          refine lv_aload_n hx hb dL_isCash_84 rfl (lv_at hl 1 rfl) ?_
          refine lv_iload hx hb dL_isCash_85 (lv_at hl 7 rfl) ?_
          refine aI hx hb hE hA rfl (by omega) (by omega) hpt dL_isCash_87 ?_
          refine lv_icmp_ge (tgt := 179) hx hb dL_isCash_88 (by decide) (fun q2 => ?_) (fun q2 => ?_)
          rotate_left
          · exact absurd (nI_le (by omega) (by omega)) q2
          refine lv_iinc (v := nI (i + 1)) (lv' := [(9, .int (nI (i + 1))), (0, .ref x), (1, .ref pe), (2, .int (nI a)), (3, .int (nI b)), (4, .long (pdL h0 h1 fx (nI a) (nI b) ts)), (6, .long (f + pdS tr.1 tr.2.1 (bfC h0 h1 tr.1) fx (nI a) (nI b) k)), (8, .int 1), (10, .int (nI k))]) hx hb dL_isCash_179 hl (k := 7) rfl (nI_1 i) (by decide) rfl (fun ls hl => ?_)
          refine lv_goto (tgt := 70) hx hb dL_isCash_182 (by decide) ?_
          refine ih (i + 1) c8 s8 _ locs ls hd2 (by omega) ?_ (by omega) (by omega) hS (lv_sub hl [1, 2, 3, 4, 5, 6, 7, 0] rfl)
          rw [he, hk]
          exact (Int64.add_assoc _ _ _).symm
        | succ r ih3 =>
          intro k c8 s8 locs ls hk h8 h7 hS hl
          have hlk : k < np tr := by omega
          refine lv_iload hx hb dL_isCash_82 (lv_at hl 8 rfl) ?_
          refine lv_aload_n hx hb dL_isCash_84 rfl (lv_at hl 1 rfl) ?_
          refine lv_iload hx hb dL_isCash_85 (lv_at hl 7 rfl) ?_
          refine aI hx hb hE hA rfl (by omega) (by omega) hpt dL_isCash_87 ?_
          refine lv_icmp_ge (tgt := 179) hx hb dL_isCash_88 (by decide) (fun q2 => ?_) (fun q2 => ?_)
          · exact absurd q2 (nI_ge hlk (by omega))
          refine lv_aload_n hx hb dL_isCash_91 rfl (lv_at hl 0 rfl) ?_
          refine lv_iload hx hb dL_isCash_92 (lv_at hl 7 rfl) ?_
          refine lv_iload hx hb dL_isCash_94 (lv_at hl 8 rfl) ?_
          refine gV hx hb hml hts hown hB hE hS kwL_21 (n_end hX hV hK ht hlk) hO rfl (Nat.le_of_ble_eq_true rfl) rfl hl.1 rfl (Nat.le_of_ble_eq_true rfl) (by omega) (by omega) dL_isCash_96 (fun H21 L21 hG hz21 hE hS => ?_)
          have hG := hG.symm
          subst hG
          refine lv_istore (lv' := [(11, .int (bfC h0 h1 tr.1 (k + 1))), (0, .ref x), (1, .ref pe), (2, .int (nI a)), (3, .int (nI b)), (4, .long (pdL h0 h1 fx (nI a) (nI b) ts)), (6, .long (f + pdS tr.1 tr.2.1 (bfC h0 h1 tr.1) fx (nI a) (nI b) k)), (8, .int 1), (9, .int (nI i)), (10, .int (nI k))]) hx hb dL_isCash_99 hl (by decide) rfl (fun ls hl => ?_)
          refine lv_lload hx hb dL_isCash_101 (lv_at hl 6 rfl) ?_
          refine lv_iload hx hb dL_isCash_103 (lv_at hl 0 rfl) ?_
          refine lv_iload_n hx hb dL_isCash_105 rfl (lv_at hl 3 rfl) ?_
          refine lv_icmp_lt (tgt := 126) hx hb dL_isCash_106 (by decide) (fun p1 => ?_) (fun p1 => ?_)
          · refine lv_lconst (v := 0) hx hb dL_isCash_126 (by decide) ?_
            refine lv_ladd hx hb dL_isCash_127 ?_
            rw [show f + pdS tr.1 tr.2.1 (bfC h0 h1 tr.1) fx (nI a) (nI b) k + 0 = f + pdS tr.1 tr.2.1 (bfC h0 h1 tr.1) fx (nI a) (nI b) (k + 1) from pdS_out f (Or.inl p1)]
            refine lv_lstore (lv' := [(6, .long (f + pdS tr.1 tr.2.1 (bfC h0 h1 tr.1) fx (nI a) (nI b) (k + 1))), (11, .int (bfC h0 h1 tr.1 (k + 1))), (0, .ref x), (1, .ref pe), (2, .int (nI a)), (3, .int (nI b)), (4, .long (pdL h0 h1 fx (nI a) (nI b) ts)), (8, .int 1), (9, .int (nI i)), (10, .int (nI k))]) hx hb dL_isCash_128 hl (by decide) rfl (fun ls hl => ?_)
            refine lv_iload hx hb dL_isCash_130 (lv_at hl 7 rfl) ?_
            refine lv_if_eq (tgt := 170) hx hb dL_isCash_132 (by decide) (fun p5 => ?_) (fun p5 => ?_)
            · exact absurd p5 (by decide)
            refine lv_iload hx hb dL_isCash_135 (lv_at hl 1 rfl) ?_
            refine lv_iload_n hx hb dL_isCash_137 rfl (lv_at hl 4 rfl) ?_
            refine lv_icmp_lt (tgt := 166) hx hb dL_isCash_138 (by decide) (fun p6 => ?_) (fun p6 => ?_)
            rotate_left
            · exact absurd p1 p6
            refine lv_iconst (v := 1) hx hb dL_isCash_166 (by decide) ?_
            refine lv_goto (tgt := 171) hx hb dL_isCash_167 (by decide) ?_
            refine lv_istore (lv' := [(8, .int 1), (6, .long (f + pdS tr.1 tr.2.1 (bfC h0 h1 tr.1) fx (nI a) (nI b) (k + 1))), (11, .int (bfC h0 h1 tr.1 (k + 1))), (0, .ref x), (1, .ref pe), (2, .int (nI a)), (3, .int (nI b)), (4, .long (pdL h0 h1 fx (nI a) (nI b) ts)), (9, .int (nI i)), (10, .int (nI k))]) hx hb dL_isCash_171 hl (by decide) rfl (fun ls hl => ?_)
            refine lv_iinc (v := nI (k + 1)) (lv' := [(10, .int (nI (k + 1))), (8, .int 1), (6, .long (f + pdS tr.1 tr.2.1 (bfC h0 h1 tr.1) fx (nI a) (nI b) (k + 1))), (11, .int (bfC h0 h1 tr.1 (k + 1))), (0, .ref x), (1, .ref pe), (2, .int (nI a)), (3, .int (nI b)), (4, .long (pdL h0 h1 fx (nI a) (nI b) ts)), (9, .int (nI i))]) hx hb dL_isCash_173 hl (k := 9) rfl (nI_1 k) (by decide) rfl (fun ls hl => ?_)
            refine lv_goto (tgt := 82) hx hb dL_isCash_176 (by decide) ?_
            exact ih3 (k + 1) _ _ L21 ls (by omega) (by omega) (by omega) hS (lv_sub hl [4, 5, 6, 7, 8, 2, 1, 9, 0] rfl)
          · refine lv_iload hx hb dL_isCash_109 (lv_at hl 0 rfl) ?_
            refine lv_iload_n hx hb dL_isCash_111 rfl (lv_at hl 4 rfl) ?_
            refine lv_icmp_gt (tgt := 126) hx hb dL_isCash_112 (by decide) (fun p2 => ?_) (fun p2 => ?_)
            · refine lv_lconst (v := 0) hx hb dL_isCash_126 (by decide) ?_
              refine lv_ladd hx hb dL_isCash_127 ?_
              rw [show f + pdS tr.1 tr.2.1 (bfC h0 h1 tr.1) fx (nI a) (nI b) k + 0 = f + pdS tr.1 tr.2.1 (bfC h0 h1 tr.1) fx (nI a) (nI b) (k + 1) from pdS_out f (Or.inr p2)]
              refine lv_lstore (lv' := [(6, .long (f + pdS tr.1 tr.2.1 (bfC h0 h1 tr.1) fx (nI a) (nI b) (k + 1))), (11, .int (bfC h0 h1 tr.1 (k + 1))), (0, .ref x), (1, .ref pe), (2, .int (nI a)), (3, .int (nI b)), (4, .long (pdL h0 h1 fx (nI a) (nI b) ts)), (8, .int 1), (9, .int (nI i)), (10, .int (nI k))]) hx hb dL_isCash_128 hl (by decide) rfl (fun ls hl => ?_)
              refine lv_iload hx hb dL_isCash_130 (lv_at hl 7 rfl) ?_
              refine lv_if_eq (tgt := 170) hx hb dL_isCash_132 (by decide) (fun p5 => ?_) (fun p5 => ?_)
              · exact absurd p5 (by decide)
              refine lv_iload hx hb dL_isCash_135 (lv_at hl 1 rfl) ?_
              refine lv_iload_n hx hb dL_isCash_137 rfl (lv_at hl 4 rfl) ?_
              refine lv_icmp_lt (tgt := 166) hx hb dL_isCash_138 (by decide) (fun p6 => ?_) (fun p6 => ?_)
              · exact absurd p6 p1
              refine lv_iload hx hb dL_isCash_141 (lv_at hl 1 rfl) ?_
              refine lv_iload_n hx hb dL_isCash_143 rfl (lv_at hl 5 rfl) ?_
              refine lv_icmp_gt (tgt := 166) hx hb dL_isCash_144 (by decide) (fun p7 => ?_) (fun p7 => ?_)
              rotate_left
              · exact absurd p2 p7
              refine lv_iconst (v := 1) hx hb dL_isCash_166 (by decide) ?_
              refine lv_goto (tgt := 171) hx hb dL_isCash_167 (by decide) ?_
              refine lv_istore (lv' := [(8, .int 1), (6, .long (f + pdS tr.1 tr.2.1 (bfC h0 h1 tr.1) fx (nI a) (nI b) (k + 1))), (11, .int (bfC h0 h1 tr.1 (k + 1))), (0, .ref x), (1, .ref pe), (2, .int (nI a)), (3, .int (nI b)), (4, .long (pdL h0 h1 fx (nI a) (nI b) ts)), (9, .int (nI i)), (10, .int (nI k))]) hx hb dL_isCash_171 hl (by decide) rfl (fun ls hl => ?_)
              refine lv_iinc (v := nI (k + 1)) (lv' := [(10, .int (nI (k + 1))), (8, .int 1), (6, .long (f + pdS tr.1 tr.2.1 (bfC h0 h1 tr.1) fx (nI a) (nI b) (k + 1))), (11, .int (bfC h0 h1 tr.1 (k + 1))), (0, .ref x), (1, .ref pe), (2, .int (nI a)), (3, .int (nI b)), (4, .long (pdL h0 h1 fx (nI a) (nI b) ts)), (9, .int (nI i))]) hx hb dL_isCash_173 hl (k := 9) rfl (nI_1 k) (by decide) rfl (fun ls hl => ?_)
              refine lv_goto (tgt := 82) hx hb dL_isCash_176 (by decide) ?_
              exact ih3 (k + 1) _ _ L21 ls (by omega) (by omega) (by omega) hS (lv_sub hl [4, 5, 6, 7, 8, 2, 1, 9, 0] rfl)
            · refine lv_aload_n hx hb dL_isCash_115 rfl (lv_at hl 1 rfl) ?_
              refine lv_iload hx hb dL_isCash_116 (lv_at hl 8 rfl) ?_
              refine lv_iload hx hb dL_isCash_118 (lv_at hl 9 rfl) ?_
              refine gV hx hb hml hts hown hB hE hS kwL_25 (n_flow hX hV hK ht hlk) hO rfl (Nat.le_of_ble_eq_true rfl) rfl hl.1 rfl (Nat.le_of_ble_eq_true rfl) (by omega) (by omega) dL_isCash_120 (fun H22 L22 hG hz22 hE hS => ?_)
              have hG := hG.symm
              subst hG
              refine lv_goto (tgt := 127) hx hb dL_isCash_123 (by decide) ?_
              refine lv_ladd hx hb dL_isCash_127 ?_
              rw [show f + pdS tr.1 tr.2.1 (bfC h0 h1 tr.1) fx (nI a) (nI b) k + flwS tr.1 tr.2.1 (bfC h0 h1 tr.1) fx k = f + pdS tr.1 tr.2.1 (bfC h0 h1 tr.1) fx (nI a) (nI b) (k + 1) from pdS_in f p1 p2]
              refine lv_lstore (lv' := [(6, .long (f + pdS tr.1 tr.2.1 (bfC h0 h1 tr.1) fx (nI a) (nI b) (k + 1))), (11, .int (bfC h0 h1 tr.1 (k + 1))), (0, .ref x), (1, .ref pe), (2, .int (nI a)), (3, .int (nI b)), (4, .long (pdL h0 h1 fx (nI a) (nI b) ts)), (8, .int 1), (9, .int (nI i)), (10, .int (nI k))]) hx hb dL_isCash_128 hl (by decide) rfl (fun ls hl => ?_)
              refine lv_iload hx hb dL_isCash_130 (lv_at hl 7 rfl) ?_
              refine lv_if_eq (tgt := 170) hx hb dL_isCash_132 (by decide) (fun p5 => ?_) (fun p5 => ?_)
              · exact absurd p5 (by decide)
              refine lv_iload hx hb dL_isCash_135 (lv_at hl 1 rfl) ?_
              refine lv_iload_n hx hb dL_isCash_137 rfl (lv_at hl 4 rfl) ?_
              refine lv_icmp_lt (tgt := 166) hx hb dL_isCash_138 (by decide) (fun p6 => ?_) (fun p6 => ?_)
              · exact absurd p6 p1
              refine lv_iload hx hb dL_isCash_141 (lv_at hl 1 rfl) ?_
              refine lv_iload_n hx hb dL_isCash_143 rfl (lv_at hl 5 rfl) ?_
              refine lv_icmp_gt (tgt := 166) hx hb dL_isCash_144 (by decide) (fun p7 => ?_) (fun p7 => ?_)
              · exact absurd p7 p2
              refine lv_aload_n hx hb dL_isCash_147 rfl (lv_at hl 2 rfl) ?_
              refine lv_aload_n hx hb dL_isCash_148 rfl (lv_at hl 2 rfl) ?_
              refine lv_iload hx hb dL_isCash_149 (lv_at hl 8 rfl) ?_
              refine lv_iload hx hb dL_isCash_151 (lv_at hl 1 rfl) ?_
              obtain ⟨m9, hm9, em9⟩ := bfC_nat (h0 := h0) (h1 := h1) hT (k := k + 1) (by omega)
              have hle9 : m9 ≤ b := by rw [em9] at p2; rcases Nat.lt_or_ge b m9 with q9 | q9; exact absurd (nI_lt q9 (by omega)) p2; exact q9
              have hi9 : inB (bfC h0 h1 tr.1 (k + 1)) 0 3000 = true := by rw [em9]; exact inB_of (a := 0) (b := 3000) (Nat.zero_le _) (by omega) (by decide)
              have hi8 : inB (bfC h0 h1 tr.1 (k + 1)) 0 3100 = true := by rw [em9]; exact inB_of (a := 0) (b := 3100) (Nat.zero_le _) (by omega) (by decide)
              refine gV hx hb hml hts hown hB hE hS kwL_29 (n_party hX hV hK ht hi9) hO rfl (Nat.le_of_ble_eq_true rfl) rfl hl.1 rfl (Nat.le_of_ble_eq_true rfl) (by omega) (by omega) dL_isCash_153 (fun H23 L23 hG hz23 hE hS => ?_)
              have hG := hG.symm
              subst hG
              refine lv_iload hx hb dL_isCash_156 (lv_at hl 1 rfl) ?_
              have hcs9 : cdCash (hldS tr.1 tr.2.2 (bfC h0 h1 tr.1 (k + 1))) (bfC h0 h1 tr.1 (k + 1)) = 0 := by unfold cdCash; rw [if_neg (by rw [hH.in]; decide), if_pos hi8]
              refine gV hx hb hml hts hown hB hE hS kwL_32 (n_next hX hV hK hcs9) hO rfl (Nat.le_of_ble_eq_true rfl) rfl hl.1 rfl (Nat.le_of_ble_eq_true rfl) (by omega) (by omega) dL_isCash_158 (fun H24 L24 hG hz24 hE hS => ?_)
              have hG := hG.symm
              subst hG
              refine lv_iload hx hb dL_isCash_161 (lv_at hl 1 rfl) ?_
              refine lv_icmp_ne (tgt := 170) hx hb dL_isCash_163 (by decide) (fun p8 => ?_) (fun p8 => ?_)
              · exact absurd (next_hit hV ht hlk) p8
              refine lv_iconst (v := 1) hx hb dL_isCash_166 (by decide) ?_
              refine lv_goto (tgt := 171) hx hb dL_isCash_167 (by decide) ?_
              refine lv_istore (lv' := [(8, .int 1), (6, .long (f + pdS tr.1 tr.2.1 (bfC h0 h1 tr.1) fx (nI a) (nI b) (k + 1))), (11, .int (bfC h0 h1 tr.1 (k + 1))), (0, .ref x), (1, .ref pe), (2, .int (nI a)), (3, .int (nI b)), (4, .long (pdL h0 h1 fx (nI a) (nI b) ts)), (9, .int (nI i)), (10, .int (nI k))]) hx hb dL_isCash_171 hl (by decide) rfl (fun ls hl => ?_)
              refine lv_iinc (v := nI (k + 1)) (lv' := [(10, .int (nI (k + 1))), (8, .int 1), (6, .long (f + pdS tr.1 tr.2.1 (bfC h0 h1 tr.1) fx (nI a) (nI b) (k + 1))), (11, .int (bfC h0 h1 tr.1 (k + 1))), (0, .ref x), (1, .ref pe), (2, .int (nI a)), (3, .int (nI b)), (4, .long (pdL h0 h1 fx (nI a) (nI b) ts)), (9, .int (nI i))]) hx hb dL_isCash_173 hl (k := 9) rfl (nI_1 k) (by decide) rfl (fun ls hl => ?_)
              refine lv_goto (tgt := 82) hx hb dL_isCash_176 (by decide) ?_
              exact ih3 (k + 1) _ _ L24 ls (by omega) (by omega) (by omega) hS (lv_sub hl [4, 5, 6, 7, 8, 2, 1, 9, 0] rfl)
      exact loop3 (np tr) 0 c9 s9 locs ls (by omega) (by omega) (by omega) hS (by rw [show f + pdS tr.1 tr.2.1 (bfC h0 h1 tr.1) fx (nI a) (nI b) 0 = f from Int64.add_zero f]; exact (lv_sub hl [1, 2, 3, 4, 5, 6, 7, 8, 0] rfl))
  have loop1 : ∀ (r i : Nat) (locs : List Loc) (ls : Array Slot), i + r = 4 → va_S (fr E) s.heap H locs → lv_has ls 12 [(0, .ref x), (1, .ref pe), (2, .int (nI a)), (3, .int (nI b)), (4, .long (allS h0 h1 fx (nI a) (nI b) ts i)), (6, .long 0), (8, .int 1), (9, .int (nI i))] → W p (eL E) e (rmk 11 900 5400) s m ([.ref x, .ref pe, .int (nI a), .int (nI b)]).toArray below meth co H locs (6 * i) (36 * i) (MQ below (CQ E (o1 (some (.int 1)) (fun H' => H' = H))) ([.ref x, .ref pe, .int (nI a), .int (nI b)]).toArray s 900 5400 (fr E)) (F0 m 12 ls []) := by
    intro r
    induction r with
    | zero =>
      intro i locs ls hi hS hl
      have hi : i = 4 := hi
      refine lv_iload hx hb dL_isCash_12 (lv_at hl 7 rfl) ?_
      refine lv_iconst (v := 4) hx hb dL_isCash_14 (by decide) ?_
      refine lv_icmp_ge (tgt := 67) hx hb dL_isCash_15 (by decide) (fun q1 => ?_) (fun q1 => ?_)
      rotate_left
      · exact absurd (nI_le (a := 4) (by omega) (by omega)) q1
      refine lv_iconst (v := 0) hx hb dL_isCash_67 (by decide) ?_
      refine lv_istore (lv' := [(9, .int 0), (0, .ref x), (1, .ref pe), (2, .int (nI a)), (3, .int (nI b)), (4, .long (allS h0 h1 fx (nI a) (nI b) ts i)), (6, .long 0), (8, .int 1)]) hx hb dL_isCash_68 hl (by decide) rfl (fun ls hl => ?_)
      rw [hi, hal] at hl
      exact loop2 ts 0 _ _ 0 locs ls rfl (Nat.zero_le _) (Int64.zero_add _).symm (by omega) (by omega) hS (lv_sub hl [1, 2, 3, 4, 5, 6, 7, 0] rfl)
    | succ r ih =>
      intro i locs ls hi hS hl
      have hcd : cdSpan (nI i) (nI a) (nI b) = 0 := span_ok (by omega) hab hb4 (by omega)
      refine lv_iload hx hb dL_isCash_12 (lv_at hl 7 rfl) ?_
      refine lv_iconst (v := 4) hx hb dL_isCash_14 (by decide) ?_
      refine lv_icmp_ge (tgt := 67) hx hb dL_isCash_15 (by decide) (fun q1 => ?_) (fun q1 => ?_)
      · exact absurd q1 (nI_ge (b := 4) (by omega) (by decide))
      refine lv_iload hx hb dL_isCash_18 (lv_at hl 6 rfl) ?_
      refine lv_if_eq (tgt := 67) hx hb dL_isCash_20 (by decide) (fun q2 => ?_) (fun q2 => ?_)
      · exact absurd q2 (by decide)
      refine lv_aload_n hx hb dL_isCash_23 rfl (lv_at hl 0 rfl) ?_
      refine lv_iload hx hb dL_isCash_24 (lv_at hl 7 rfl) ?_
      refine lv_iload_n hx hb dL_isCash_26 rfl (lv_at hl 2 rfl) ?_
      refine lv_iload_n hx hb dL_isCash_27 rfl (lv_at hl 3 rfl) ?_
      refine gV hx hb hml hts hown hB hE hS kwL_8 (n_days hX hV hK hcd) hO rfl (Nat.le_of_ble_eq_true rfl) rfl hl.1 rfl (Nat.le_of_ble_eq_true rfl) (by omega) (by omega) dL_isCash_28 (fun H11 L11 hG hz11 hE hS => ?_)
      have hG := hG.symm
      subst hG
      refine lv_lstore (lv' := [(10, .long (sumS h0 h1 fx (nI i) (nI a) (nI b) 0 ts)), (0, .ref x), (1, .ref pe), (2, .int (nI a)), (3, .int (nI b)), (4, .long (allS h0 h1 fx (nI a) (nI b) ts i)), (6, .long 0), (8, .int 1), (9, .int (nI i))]) hx hb dL_isCash_31 hl (by decide) rfl (fun ls hl => ?_)
      refine lv_lload hx hb dL_isCash_33 (lv_at hl 5 rfl) ?_
      refine lv_lload hx hb dL_isCash_35 (lv_at hl 0 rfl) ?_
      refine lv_ladd hx hb dL_isCash_37 ?_
      refine lv_lstore (lv' := [(4, .long (allS h0 h1 fx (nI a) (nI b) ts i + (sumS h0 h1 fx (nI i) (nI a) (nI b) 0 ts))), (10, .long (sumS h0 h1 fx (nI i) (nI a) (nI b) 0 ts)), (0, .ref x), (1, .ref pe), (2, .int (nI a)), (3, .int (nI b)), (6, .long 0), (8, .int 1), (9, .int (nI i))]) hx hb dL_isCash_38 hl (by decide) rfl (fun ls hl => ?_)
      refine lv_aload_n hx hb dL_isCash_40 rfl (lv_at hl 2 rfl) ?_
      refine lv_iload hx hb dL_isCash_41 (lv_at hl 8 rfl) ?_
      refine lv_iload_n hx hb dL_isCash_43 rfl (lv_at hl 4 rfl) ?_
      refine lv_iload_n hx hb dL_isCash_44 rfl (lv_at hl 5 rfl) ?_
      refine gV hx hb hml hts hown hB hE hS kwL_14 (n_bytr hX hV hK hcd) hO rfl (Nat.le_of_ble_eq_true rfl) rfl hl.1 rfl (Nat.le_of_ble_eq_true rfl) (by omega) (by omega) dL_isCash_45 (fun H12 L12 hG hz12 hE hS => ?_)
      have hG := hG.symm
      subst hG
      refine lv_lload hx hb dL_isCash_48 (lv_at hl 1 rfl) ?_
      refine W.lcmp hx hb dL_isCash_50 ?_
      refine lv_if_ne (tgt := 58) hx hb dL_isCash_51 (by decide) (fun q3 => ?_) (fun q3 => ?_)
      · exact absurd (lcmp_eq0.mpr rfl) q3
      refine lv_iconst (v := 1) hx hb dL_isCash_54 (by decide) ?_
      refine lv_goto (tgt := 59) hx hb dL_isCash_55 (by decide) ?_
      refine lv_istore (lv' := [(8, .int 1), (4, .long (allS h0 h1 fx (nI a) (nI b) ts i + (sumS h0 h1 fx (nI i) (nI a) (nI b) 0 ts))), (10, .long (sumS h0 h1 fx (nI i) (nI a) (nI b) 0 ts)), (0, .ref x), (1, .ref pe), (2, .int (nI a)), (3, .int (nI b)), (6, .long 0), (9, .int (nI i))]) hx hb dL_isCash_59 hl (by decide) rfl (fun ls hl => ?_)
      refine lv_iinc (v := nI (i + 1)) (lv' := [(9, .int (nI (i + 1))), (8, .int 1), (4, .long (allS h0 h1 fx (nI a) (nI b) ts i + (sumS h0 h1 fx (nI i) (nI a) (nI b) 0 ts))), (10, .long (sumS h0 h1 fx (nI i) (nI a) (nI b) 0 ts)), (0, .ref x), (1, .ref pe), (2, .int (nI a)), (3, .int (nI b)), (6, .long 0)]) hx hb dL_isCash_61 hl (k := 8) rfl (nI_1 i) (by decide) rfl (fun ls hl => ?_)
      refine lv_goto (tgt := 12) hx hb dL_isCash_64 (by decide) ?_
      exact ih (i + 1) L12 ls (by omega) hS (lv_sub hl [4, 5, 6, 7, 2, 8, 1, 0] rfl)
  exact loop1 4 0 [] ls rfl hS (lv_sub hl [4, 5, 6, 7, 3, 2, 1, 0] rfl)
