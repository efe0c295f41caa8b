/-! ===== the references as they stand behind the constructors ===== -/
def R0l : List (List Nat) := [[], [2, 4, 6, 18, 35, 0, 70, 72, 74, 76, 78, 80, 86, 88, 93], [0, 0, 0, 3], [], [0, 0, 0, 5], [], [7, 0, 8], [], [0, 0, 9, 10, 11, 12, 13, 14, 15, 16, 17], [], [], [], [], [], [], [], [], [], [19, 29, 30, 0, 0, 31, 32, 33, 34], [0, 0, 20, 21, 22, 23, 24, 25, 26, 27, 28], [], [], [], [], [], [], [], [], [], [], [], [], [], [], [], [36, 53], [37, 47, 48, 0, 0, 49, 50, 51, 52], [0, 0, 38, 39, 40, 41, 42, 43, 44, 45, 46], [], [], [], [], [], [], [], [], [], [], [], [], [], [], [], [54, 64, 65, 0, 0, 66, 67, 68, 69], [0, 0, 55, 56, 57, 58, 59, 60, 61, 62, 63], [], [], [], [], [], [], [], [], [], [], [], [], [], [], [], [0, 0, 71], [], [0, 0, 73], [], [0, 0, 75], [], [0, 0, 77], [], [79], [], [0, 0, 81, 82, 83, 84, 85], [], [], [], [], [], [87], [], [89, 90, 91, 92], [], [], [], [], [94, 0, 95], [], [96, 97, 98, 99], [], [], [], [], [0, 0, 0, 0, 101, 0, 102, 0, 0, 103, 104, 105, 106, 107, 108, 109, 110, 111, 112, 0, 113, 114, 115, 116, 0, 0, 117, 118, 119, 120, 0, 121, 0, 0, 0, 0, 0, 122, 123, 124, 125, 126, 127, 128, 129, 130], [], [], [], [], [], [], [], [], [], [], [], [], [], [], [], [], [], [], [], [], [], [], [], [], [], [], [], [], [], []]
def R0 (o k : Nat) : Nat := (R0l.getD o []).getD k 0
abbrev ZT : Type := Nat → Nat → Int
/-- a contract that changes numbers alone: rp: which references must stand -/
def gsp (n ci : Nat) (rp : (Nat → Nat → Nat) → List PV → Prop) (pre : List PV → ZT → Prop) (post : List PV → ZT → Option PV → ZT → Prop) : Sp :=
  (n, ci, 0, fun as σ => rp σ.2.2 as ∧ pre as σ.2.1, fun as σ r σ' => σ'.1 = σ.1 ∧ σ'.2.2 = σ.2.2 ∧ post as σ.2.1 r σ'.2.1)
/-- no numbers change -/
def rsp (n ci : Nat) (rp : (Nat → Nat → Nat) → List PV → Prop) (pre : List PV → ZT → Prop) (post : List PV → ZT → PV → Prop) : Sp :=
  (n, ci, 0, fun as σ => rp σ.2.2 as ∧ pre as σ.2.1, fun as σ r σ' => σ' = σ ∧ ∃ v, r = some v ∧ post as σ.2.1 v)
/-- an answer reckoned from the arguments alone -/
def postF (f : List PV → PV) (as : List PV) (σ : St) (r : Option PV) (σ' : St) : Prop := σ' = σ ∧ r = some (f as)
def fsp (n ci : Nat) (pre : List PV → Prop) (f : List PV → PV) : Sp := (n, ci, 0, fun as _ => pre as, postF f)
theorem fsp_aft {f : List PV → PV} {as : List PV} {σ : St} {K : Option PV → St → Prop} (h : K (some (f as)) σ) : ∀ (r : Option PV) (σ' : St), postF f as σ r σ' → K r σ' := by
  rintro r σ' ⟨rfl, rfl⟩
  exact h
theorem w32_id {a : Int} (h1 : -2147483648 ≤ a) (h2 : a ≤ 2147483647) : w32 a = a := by unfold w32; omega
theorem w64_id {a : Int} (h1 : -9223372036854775808 ≤ a) (h2 : a ≤ 9223372036854775807) : w64 a = a := by unfold w64; omega
theorem hd1 {n : Nat} {v : PV} {t : List PV} (h : ∀ w ∈ v :: t, okV n w) : okV n v := h v List.mem_cons_self
theorem tl1 {n : Nat} {v : PV} {t : List PV} (h : ∀ w ∈ v :: t, okV n w) : ∀ w ∈ t, okV n w := fun w hw => h w (List.mem_cons_of_mem _ hw)
