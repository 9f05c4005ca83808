theorem nx_xor (a b : Nat) : nI a ^^^ nI b = nI (a ^^^ b) := by
  apply Int32.toBitVec_inj.1
  show BitVec.ofNat 32 a ^^^ BitVec.ofNat 32 b = BitVec.ofNat 32 (a ^^^ b)
  apply BitVec.eq_of_getLsbD_eq
  intro i hi
  simp [hi]
theorem xor_pos {d : Nat} (h : d < 2 ^ 31) : 0 ≤ nI d ^^^ nI 7 := by
  rw [nx_xor]
  exact nI_pos' (Nat.xor_lt_two_pow h (by decide))
/-- the floor of a quotient by the cents of a lot, as the reference says it -/
def flo (x : Int64) : Int64 := if x / 3600000 * 3600000 > x then x / 3600000 - 1 else x / 3600000
theorem lot_toInt : (3600000 : Int64).toInt = 3600000 := by decide
theorem divmul (x : Int64) : (x / 3600000 * 3600000).toInt = x.toInt.tdiv 3600000 * 3600000 := by
  have e := Int.tmod_add_mul_tdiv x.toInt 3600000
  have h1 := Int.tmod_lt_of_pos x.toInt (b := 3600000) (by decide)
  have h2 := Int.lt_tmod_of_pos x.toInt (b := 3600000) (by decide)
  have b1 := x.toInt_lt
  have b2 := x.le_toInt
  have h3 : 0 ≤ x.toInt → 0 ≤ x.toInt.tmod 3600000 := fun h => Int.tmod_nonneg _ h
  have h4 : x.toInt ≤ 0 → x.toInt.tmod 3600000 ≤ 0 := fun h => by
    have := Int.tmod_nonneg (a := -x.toInt) 3600000 (by omega)
    rw [Int.neg_tmod] at this
    omega
  rw [Int64.toInt_mul, Int64.toInt_div_of_ne_right _ _ (by decide), lot_toInt]
  generalize x.toInt.tdiv 3600000 = q at *
  generalize x.toInt.tmod 3600000 = r at *
  generalize x.toInt = y at *
  refine Int.bmod_eq_of_le ?_ ?_
  · rcases Int.le_total 0 y with h | h
    · have := h3 h; omega
    · have := h4 h; omega
  · rcases Int.le_total 0 y with h | h
    · have := h3 h; omega
    · have := h4 h; omega
theorem divmul_pos {x : Int64} (h : 0 ≤ x) : ¬ x / 3600000 * 3600000 > x := by
  intro q
  have q : x < x / 3600000 * 3600000 := q
  rw [Int64.lt_iff_toInt_lt, divmul] at q
  rw [Int64.le_iff_toInt_le] at h
  have h : 0 ≤ x.toInt := h
  have e := Int.tmod_add_mul_tdiv x.toInt 3600000
  have := Int.tmod_nonneg 3600000 h
  omega
theorem divmul_neg {x : Int64} (h : x < 0) (hn : ¬ x / 3600000 * 3600000 = x) : x / 3600000 * 3600000 > x := by
  show x < x / 3600000 * 3600000
  rw [Int64.lt_iff_toInt_lt, divmul]
  rw [Int64.lt_iff_toInt_lt] at h
  have h : x.toInt < 0 := h
  have hn : ¬ x.toInt.tdiv 3600000 * 3600000 = x.toInt := fun q => hn (Int64.toInt_inj.mp (by rw [divmul]; exact q))
  have e := Int.tmod_add_mul_tdiv x.toInt 3600000
  have := Int.tmod_nonneg (a := -x.toInt) 3600000 (by omega)
  rw [Int.neg_tmod] at this
  omega
theorem xor_neg (x : Int64) : x ^^^ 3600000 < 0 ↔ x < 0 := by
  rw [Int64.lt_iff_toInt_lt, Int64.lt_iff_toInt_lt]
  have a : ∀ y : Int64, y.toInt < (0 : Int64).toInt ↔ y.toBitVec.msb = true := fun y => by
    rw [BitVec.msb_eq_toInt]
    simp
  rw [a, a]
  have e : (x ^^^ 3600000).toBitVec = x.toBitVec ^^^ (3600000 : Int64).toBitVec := rfl
  rw [e, BitVec.msb_xor]
  have e2 : (3600000 : Int64).toBitVec.msb = false := by decide
  rw [e2]
  simp
theorem lcmp_ge0 {x y : Int64} : 0 ≤ lg_cmp x y ↔ y ≤ x := lg_cmp_ge x y
theorem lcmp_eq0 {x y : Int64} : lg_cmp x y = 0 ↔ x = y := by
  unfold lg_cmp
  constructor
  · intro h
    by_cases c : x > y
    · rw [if_pos c] at h; exact absurd h (by decide)
    · rw [if_neg c] at h
      by_cases c2 : x = y
      · exact c2
      · rw [if_neg c2] at h; exact absurd h (by decide)
  · intro h
    subst h
    rw [if_neg (fun q => absurd q (Int64.lt_irrefl)), if_pos rfl]
theorem flo_a {x : Int64} (h : 0 ≤ lg_cmp (x ^^^ 3600000) 0) : x / 3600000 = flo x := by
  have h1 : ¬ x ^^^ 3600000 < 0 := Int64.not_lt.mpr (lcmp_ge0.mp h)
  rw [xor_neg] at h1
  rw [flo, if_neg (divmul_pos (Int64.not_lt.mp h1))]
theorem flo_b {x : Int64} (h : lg_cmp (x / 3600000 * 3600000) x = 0) : x / 3600000 = flo x := by
  have h1 := lcmp_eq0.mp h
  rw [flo, if_neg (fun q => by rw [h1] at q; exact absurd q Int64.lt_irrefl)]
theorem flo_c {x : Int64} (h : ¬ 0 ≤ lg_cmp (x ^^^ 3600000) 0) (h2 : ¬ lg_cmp (x / 3600000 * 3600000) x = 0) : x / 3600000 - 1 = flo x := by
  have h1 : x ^^^ 3600000 < 0 := Int64.not_le.mp (fun q => h (lcmp_ge0.mpr q))
  rw [xor_neg] at h1
  rw [flo, if_pos (divmul_neg h1 (fun q => h2 (lcmp_eq0.mpr q)))]
