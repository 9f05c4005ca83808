/-! days, trades -/
def opn (h0 h1 : Dy) (d : Nat) : Bool := decide (d % 7 < 5) && (!dHas h0 (nI d) && !dHas h1 (nI d))
def rolF (h0 h1 : Dy) : Nat → Nat → Nat
  | 0, d => d
  | n + 1, d => if opn h0 h1 d then d else rolF h0 h1 n (d + 1)
/-- the rolled day -/
def rol (h0 h1 : Dy) (d : Nat) : Nat := rolF h0 h1 1000 d
theorem rolF_ge (h0 h1 : Dy) : ∀ n d, d ≤ rolF h0 h1 n d ∧ rolF h0 h1 n d ≤ d + n
  | 0, d => ⟨Nat.le_refl _, Nat.le_refl _⟩
  | n + 1, d => by
    unfold rolF
    by_cases c : opn h0 h1 d = true
    · rw [if_pos c]; omega
    · rw [if_neg c]
      have := rolF_ge h0 h1 n (d + 1)
      omega
/-- a trade: its terms by their places (party, lots, paysFixed, fixed, first, length, periods, spread, dayCount, compounding), its breaks, its handovers -/
abbrev TR : Type := (Nat → Int32) × Dy × Dy
def dys (T : Nat → Int32) (bf : Nat → Int32) (k : Nat) : Int64 := if T 8 = 0 then (bf (k + 1) - bf k).toInt64 else (T 5).toInt64
def rte (fx : Dy) (bf : Nat → Int32) (k : Nat) : Int64 := (dLast fx (bf k) 0).toInt64
/-- what was compounded, and the floating interest of the last period, behind k periods -/
def flS (T : Nat → Int32) (bf : Nat → Int32) (fx : Dy) : Nat → Int64 × Int64
  | 0 => (0, 0)
  | k + 1 =>
    let r := rte fx bf k
    let g := flo ((3600000 + (flS T bf fx k).1) * (if T 9 = 1 then r + (T 7).toInt64 else r) * dys T bf k)
    ((flS T bf fx k).1 + g, if T 9 = 0 then (r + (T 7).toInt64) * dys T bf k else if T 9 = 1 then g else g + (T 7).toInt64 * dys T bf k)
def fltS (T : Nat → Int32) (bf : Nat → Int32) (fx : Dy) (k : Nat) : Int64 := (flS T bf fx (k + 1)).2
def lotS (T : Nat → Int32) (bs : Dy) (bf : Nat → Int32) (k : Nat) : Int32 := T 1 - dSum bs (bf k)
def rstS (T : Nat → Int32) (bs : Dy) : Int32 := T 1 - dSum bs 3000
def hldS (T : Nat → Int32) (hs : Dy) (day : Int32) : Int32 := dLast hs day (T 0)
def gnS (T : Nat → Int32) (bf : Nat → Int32) (fx : Dy) (k : Nat) : Int64 := fltS T bf fx k - (T 3).toInt64 * dys T bf k
def flwS (T : Nat → Int32) (bs : Dy) (bf : Nat → Int32) (fx : Dy) (k : Nat) : Int64 := (lotS T bs bf k).toInt64 * (if T 2 = 0 then -(gnS T bf fx k) else gnS T bf fx k)
/-- the flows of the first k periods that are paid from one day to another while the trade is of the party -/
def cshS (T : Nat → Int32) (bs hs : Dy) (bf : Nat → Int32) (fx : Dy) (pa d1 d2 : Int32) : Nat → Int64
  | 0 => 0
  | k + 1 => if d1 ≤ bf (k + 1) ∧ bf (k + 1) ≤ d2 ∧ hldS T hs (bf (k + 1)) = pa then cshS T bs hs bf fx pa d1 d2 k + flwS T bs bf fx k else cshS T bs hs bf fx pa d1 d2 k
/-- the first pay day, from a day on, of r periods from k on, while the trade is of the party; -1 if there is none -/
def npS (T : Nat → Int32) (hs : Dy) (bf : Nat → Int32) (pa day : Int32) : Nat → Nat → Int32
  | 0, _ => -1
  | r + 1, k => if day ≤ bf (k + 1) ∧ hldS T hs (bf (k + 1)) = pa then bf (k + 1) else npS T hs bf pa day r (k + 1)
def fitS (T U : Nat → Int32) : Bool := decide (¬ T 2 = U 2) && (decide (T 3 = U 3) && (decide (T 7 = U 7) && (decide (T 4 = U 4) && (decide (T 5 = U 5) && (decide (T 6 = U 6) && (decide (T 8 = U 8) && decide (T 9 = U 9)))))))
/-- of the first k periods: does one start on the day or later; are all such paid while both trades are of one party -/
def smpS (T U : Nat → Int32) (hs hu : Dy) (bf : Nat → Int32) (day : Int32) : Nat → Bool × Bool
  | 0 => (false, true)
  | k + 1 => if day ≤ bf k then (true, (smpS T U hs hu bf day k).2 && decide (hldS T hs (bf (k + 1)) = hldS U hu (bf (k + 1)))) else smpS T U hs hu bf day k
def smeS (T U : Nat → Int32) (hs hu : Dy) (bf : Nat → Int32) (day : Int32) (n : Nat) : Bool := (smpS T U hs hu bf day n).1 && (smpS T U hs hu bf day n).2
theorem smpS_f {T U : Nat → Int32} {hs hu : Dy} {bf : Nat → Int32} {day : Int32} {k : Nat} (h : (smpS T U hs hu bf day k).2 = false) : ∀ n, k ≤ n → (smpS T U hs hu bf day n).2 = false := by
  intro n hn
  induction n with
  | zero => cases Nat.le_zero.mp hn; exact h
  | succ n ih =>
    rcases Nat.lt_or_ge k (n + 1) with q | q
    · have := ih (by omega)
      unfold smpS
      by_cases c : day ≤ bf n
      · rw [if_pos c]; simp [this]
      · rw [if_neg c]; exact this
    · cases Nat.le_antisymm hn q; exact h
/-- a calendar at q, a trade at w -/
def CR (E : ET) (q : Nat) (h0 h1 : Dy) (H : Heap) : Prop := ∃ d0 d1, OB E 1 [.ref d0, .ref d1] q H ∧ DR E d0 h0 H ∧ DR E d1 h1 H
abbrev tfs (T : Nat → Int32) (db dh bd : Nat) : List Value := [.int (T 0), .int (T 1), .int (T 2), .int (T 3), .int (T 4), .int (T 5), .int (T 6), .int (T 7), .int (T 8), .int (T 9), .ref db, .ref dh, .ref bd]
def SRx (E : ET) (w : Nat) (T : Nat → Int32) (db dh bd : Nat) (bf : Nat → Int32) (bs hs : Dy) (H : Heap) : Prop := OB E 4 (tfs T db dh bd) w H ∧ DR E db bs H ∧ DR E dh hs H ∧ IA E 11 bf bd H
