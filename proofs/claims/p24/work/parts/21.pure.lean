/-- the flows of the first k periods of a trade, one by one added to v -/
def sumK (h0 h1 fx : Dy) (pa d1 d2 : Int32) (tr : TR) (v : Int64) : Nat → Int64
  | 0 => v
  | k + 1 => sumK h0 h1 fx pa d1 d2 tr v k + (if inB (bfC h0 h1 tr.1 (k + 1)) d1 d2 = true ∧ hldS tr.1 tr.2.2 (bfC h0 h1 tr.1 (k + 1)) = pa then flwS tr.1 tr.2.1 (bfC h0 h1 tr.1) fx k else 0)
def sumS (h0 h1 fx : Dy) (pa d1 d2 : Int32) : Int64 → List TR → Int64
  | v, [] => v
  | v, tr :: us => sumS h0 h1 fx pa d1 d2 (sumK h0 h1 fx pa d1 d2 tr v (tr.1 6).toNatClampNeg) us
