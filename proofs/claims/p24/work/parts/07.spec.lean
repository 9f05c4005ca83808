/-! what the diaries hold, as lists of (day, value) -/
abbrev Dy : Type := List (Int32 × Int32)
def ixL (d : Int32) : Nat → Dy → Option Nat
  | _, [] => none
  | i, x :: xs => if x.1 = d then some i else ixL d (i + 1) xs
def dHas (es : Dy) (d : Int32) : Bool := (ixL d 0 es).isSome
def lvL (day : Int32) : Int32 → Int32 → Dy → Int32
  | _, v, [] => v
  | lt, v, x :: xs => if x.1 ≤ day ∧ lt ≤ x.1 then lvL day x.1 x.2 xs else lvL day lt v xs
def dLast (es : Dy) (day o : Int32) : Int32 := lvL day (-1) o es
def smL (day : Int32) : Int32 → Dy → Int32
  | s, [] => s
  | s, x :: xs => if x.1 ≤ day then smL day (s + x.2) xs else smL day s xs
def dSum (es : Dy) (day : Int32) : Int32 := smL day 0 es
theorem drop_c {α : Type} {l r : List α} {x : α} {i : Nat} (h : l.drop i = x :: r) : l[i]? = some x ∧ i < l.length ∧ l.drop (i + 1) = r := by
  have h1 : i < l.length := by
    rcases Nat.lt_or_ge i l.length with q | q
    · exact q
    · rw [List.drop_eq_nil_of_le q] at h; cases h
  rw [List.drop_eq_getElem_cons h1] at h
  injection h with h2 h3
  exact ⟨by rw [List.getElem?_eq_getElem h1, h2], h1, h3⟩
theorem drop_n {α : Type} {l : List α} {i : Nat} (h : l.drop i = []) (hi : i ≤ l.length) : i = l.length := by
  have := List.drop_eq_nil_iff.mp h
  omega
/-- an ArrayList: c elements, the i-th at the cell ad i -/
def LR (E : ET) (a c : Nat) (ad : Nat → Nat) (H : Heap) : Prop := ∃ (mo : Int32) (arr n : Nat) (f : Nat → Option Nat), OB E 0 [.int mo, .ref arr, .int (nI c)] a H ∧ QB E n f arr H ∧ c ≤ n ∧ n < 2 ^ 31 ∧ ∀ i, i < c → f i = some (ad i)
/-- a Diary at d, its list at a, its entries at ad i -/
def DRx (E : ET) (d a : Nat) (ad : Nat → Nat) (es : Dy) (H : Heap) : Prop := OB E 2 [.ref a] d H ∧ LR E a es.length ad H ∧ ∀ (i : Nat) (x : Int32 × Int32), es[i]? = some x → OB E 3 [.int x.1, .int x.2] (ad i) H
def DR (E : ET) (d : Nat) (es : Dy) (H : Heap) : Prop := ∃ (a : Nat) (ad : Nat → Nat), DRx E d a ad es H
theorem LR.ob {E : ET} {a c : Nat} {ad : Nat → Nat} {H : Heap} (h : LR E a c ad H) : ∃ fs, OB E 0 fs a H ∧ c < 2 ^ 31 := by
  obtain ⟨mo, arr, n, f, h1, h2, h3, h4, h5⟩ := h
  exact ⟨_, h1, by omega⟩
