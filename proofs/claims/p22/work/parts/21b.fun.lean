/-! ===== answers reckoned from arguments and numbers, nothing changed ===== -/
def postG (f : List PV → ZT → PV) (as : List PV) (σ : St) (r : Option PV) (σ' : St) : Prop := σ' = σ ∧ r = some (f as σ.2.1)
def gfp (n ci : Nat) (pre : List PV → ZT → Prop) (f : List PV → ZT → PV) : Sp := (n, ci, 0, preW pre, postG f)
