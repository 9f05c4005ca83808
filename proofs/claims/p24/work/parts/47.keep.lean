section LAWR
variable {p : Program} {e : Env} {R : Room} {s : State} {m : MethodId} {args : Array Value} {below : List Frame} {meth : Method} {c : Code} {H H0 : Heap} {locs : List Loc} {cells slots : Nat} {Q : State → Prop}
variable {cc : ByteArray} {pc nL : Nat} {ls : Array Slot} {rest st0 : List Value} {E : ET} {own : String} {hh : List (Nat × Nat × Nat × Nat)}
variable {idx k' mc' ms' n mL a ci N : Nat} {y : MethodName} {b : ByteArray} {ret : Option FieldType} {As : List Value} {v : Value} {fs : List Value} {T : u_T}
end LAWR
/-! the law's wrappers: static methods that catch -/
section WR
variable {p : Program} {e : Env} {R : Room} {s : State} {m : MethodId} {args : Array Value} {below : List Frame} {meth : Method} {c : Code} {H H0 : Heap} {locs : List Loc} {cells slots : Nat} {Q : State → Prop}
variable {cc : ByteArray} {pc nL : Nat} {ls : Array Slot} {rest st0 : List Value} {E : ET} {own : String} {hh : List (Nat × Nat × Nat × Nat)}
variable {idx k k' mc ms mc' ms' n mL a ci N : Nat} {y : MethodName} {b : ByteArray} {ret : Option FieldType} {As : List Value} {v : Value} {fs : List Value} {T : u_T}
end WR
theorem XR.kept {E : ET} {ow ow' : Nat → Nat × Nat} {x : Nat} {h0 h1 fx : Dy} {ts : List TR} {H H' : Heap} (h : XR E ow x h0 h1 fx ts H) (hF : ∀ q, q < eB E → H'[q]? = H[q]?) (hB : eF E < eB E) (hq : ∀ q, q < H.size → (ow q).1 ≠ 4 → H'[q]? = H[q]?) (hw : ∀ q, q < H.size → ow' q = ow q) : XR E ow' x h0 h1 fx ts H' := by
  obtain ⟨q, fd, bk, wa, hO, hC, hD, hL, hT, hx, hg⟩ := h
  exact ⟨q, fd, bk, wa, pk1 hO (hq x (plt hO) (by rw [hx]; decide)), hC.kept hF hB (fun z h9 h8 => hq z h9 (by omega)) hw, hD.kept hF hB (fun z h9 h8 => hq z h9 (by omega)) hw, hL.kept hF hB (fun z h9 h8 => hq z h9 (by rcases h8 with e | e <;> (rw [e]; decide))) hw, fun t tr ht => (hT t tr ht).kept hF hB (fun z h9 h8 => hq z h9 (by omega)) hw, by rw [hw x (plt hO)]; exact hx, hg⟩
theorem XOut.rf {E : ET} {ow : Nat → Nat × Nat} {x : Nat} {h0 h1 fx : Dy} {ts : List TR} {H : Heap} (hX : XR E ow x h0 h1 fx ts H) : XOut E ow x h0 h1 fx ts H H :=
  ⟨owx ow H (6, 0), fun q h => owx_old h, fun q h => by rw [owx_new h]; decide, hX.lab (Nat.le_refl _) (Nat.le_refl _), FR.rf⟩

