/-! ===== small objects: crew, grid ===== -/
/-- the receiver's own references stand -/
abbrev rT (o : Nat) (R : Nat → Nat → Nat) : Prop := R o = R0 o
def isGrid (g : Nat) : Prop := g = 2 ∨ g = 4
def isTimes (t : Nat) : Prop := t = 88 ∨ t = 95
def isBoard (b : Nat) : Prop := b = 70 ∨ b = 72 ∨ b = 74 ∨ b = 76
def isPlan (p : Nat) : Prop := p = 8 ∨ p = 19 ∨ p = 37 ∨ p = 54
def isSet (p : Nat) : Prop := p = 18 ∨ p = 36 ∨ p = 53
/-- outside of some objects nothing changed -/
def keeps (S : List Nat) (Z Z' : ZT) : Prop := ∀ o, o ∉ S → Z' o = Z o
theorem keeps_refl {S : List Nat} {Z : ZT} : keeps S Z Z := fun _ _ => rfl
theorem keeps_up {S : List Nat} {Z Z' : ZT} {o k : Nat} {a : Int} (h : keeps S Z Z') (ho : o ∈ S) : keeps S Z (upZ Z' o k a) := fun q hq => by
  have e : upZ Z' o k a q = Z' q := funext fun j => if_neg (fun (z : q = o ∧ j = k) => hq (z.1 ▸ ho))
  rw [e]
  exact h q hq
theorem keeps_trans {S : List Nat} {Z Z' Z'' : ZT} (h : keeps S Z Z') (h' : keeps S Z' Z'') : keeps S Z Z'' := fun q hq => (h' q hq).trans (h q hq)
theorem keeps_mono {S S' : List Nat} {Z Z' : ZT} (hS : ∀ o ∈ S, o ∈ S') (h : keeps S Z Z') : keeps S' Z Z' := fun q hq => h q (fun z => hq (hS q z))
