/-! ===== THE LAYOUT: every object of class and reference, in the order in which they are made; the classes by number ===== -/
-- 1 hall (20, 0)
-- 2 grid (13, 0)
-- 3 grid.near (0, 180)
-- 4 smallGrid (13, 0)
-- 5 smallGrid.near (0, 180)
-- 6 reader (16, 0)
-- 7 reader.bytes (0, 160)
-- 8 reader.plan (15, 0)
-- 9 reader.plan.order (0, 4)
-- 10 reader.plan.place (0, 4)
-- 11 reader.plan.start (0, 4)
-- 12 reader.plan.terms (0, 4)
-- 13 reader.plan.divisor (0, 4)
-- 14 reader.plan.nearest (2, 4)
-- 15 reader.plan.factors (0, 80)
-- 16 reader.plan.names (0, 80)
-- 17 reader.plan.seconds (0, 80)
-- 18 now (17, 0)
-- 19 now.plan (15, 0)
-- 20 now.plan.order (0, 4)
-- 21 now.plan.place (0, 4)
-- 22 now.plan.start (0, 4)
-- 23 now.plan.terms (0, 4)
-- 24 now.plan.divisor (0, 4)
-- 25 now.plan.nearest (2, 4)
-- 26 now.plan.factors (0, 80)
-- 27 now.plan.names (0, 80)
-- 28 now.plan.seconds (0, 80)
-- 29 now.firsts (0, 144)
-- 30 now.rims (0, 4)
-- 31 now.slipSteps (0, 12)
-- 32 now.slipCells (0, 12)
-- 33 now.slipLetters (0, 12)
-- 34 now.slipAmounts (0, 12)
-- 35 stack (3, 2)
-- 36 stack0 (17, 0)
-- 37 stack0.plan (15, 0)
-- 38 stack0.plan.order (0, 4)
-- 39 stack0.plan.place (0, 4)
-- 40 stack0.plan.start (0, 4)
-- 41 stack0.plan.terms (0, 4)
-- 42 stack0.plan.divisor (0, 4)
-- 43 stack0.plan.nearest (2, 4)
-- 44 stack0.plan.factors (0, 80)
-- 45 stack0.plan.names (0, 80)
-- 46 stack0.plan.seconds (0, 80)
-- 47 stack0.firsts (0, 144)
-- 48 stack0.rims (0, 4)
-- 49 stack0.slipSteps (0, 12)
-- 50 stack0.slipCells (0, 12)
-- 51 stack0.slipLetters (0, 12)
-- 52 stack0.slipAmounts (0, 12)
-- 53 stack1 (17, 0)
-- 54 stack1.plan (15, 0)
-- 55 stack1.plan.order (0, 4)
-- 56 stack1.plan.place (0, 4)
-- 57 stack1.plan.start (0, 4)
-- 58 stack1.plan.terms (0, 4)
-- 59 stack1.plan.divisor (0, 4)
-- 60 stack1.plan.nearest (2, 4)
-- 61 stack1.plan.factors (0, 80)
-- 62 stack1.plan.names (0, 80)
-- 63 stack1.plan.seconds (0, 80)
-- 64 stack1.firsts (0, 144)
-- 65 stack1.rims (0, 4)
-- 66 stack1.slipSteps (0, 12)
-- 67 stack1.slipCells (0, 12)
-- 68 stack1.slipLetters (0, 12)
-- 69 stack1.slipAmounts (0, 12)
-- 70 right (10, 0)
-- 71 right.numbers (0, 1872)
-- 72 hallB (10, 0)
-- 73 hallB.numbers (0, 1872)
-- 74 other (10, 0)
-- 75 other.numbers (0, 1872)
-- 76 small (10, 0)
-- 77 small.numbers (0, 468)
-- 78 marks (14, 0)
-- 79 marks.bits (0, 468)
-- 80 checks (11, 0)
-- 81 checks.rows (1, 6)
-- 82 checks.columns (1, 6)
-- 83 checks.lacks (1, 12)
-- 84 checks.parts (0, 4096)
-- 85 checks.judged (0, 36)
-- 86 crew (12, 0)
-- 87 crew.paces (0, 6)
-- 88 times (19, 0)
-- 89 times.owners (0, 36)
-- 90 times.ends (0, 468)
-- 91 times.free (0, 6)
-- 92 times.loads (0, 6)
-- 93 share (18, 0)
-- 94 share.owners (0, 36)
-- 95 trial (19, 0)
-- 96 trial.owners (0, 36)
-- 97 trial.ends (0, 468)
-- 98 trial.free (0, 6)
-- 99 trial.loads (0, 6)
-- 100 model (21, 0)
-- 101 model.rim (0, 4)
-- 102 model.text (0, 160)
-- 103 model.lineLetter (0, 8)
-- 104 model.lineOf (0, 8)
-- 105 model.termFrom (0, 8)
-- 106 model.termMany (0, 8)
-- 107 model.divisor (0, 8)
-- 108 model.nearest (0, 8)
-- 109 model.factor (0, 160)
-- 110 model.one (0, 160)
-- 111 model.two (0, 160)
-- 112 model.first (0, 144)
-- 113 model.slipStep (0, 12)
-- 114 model.slipCell (0, 12)
-- 115 model.slipLetter (0, 12)
-- 116 model.slipAmount (0, 12)
-- 117 model.told (1, 12)
-- 118 model.judged (0, 36)
-- 119 model.paces (0, 6)
-- 120 model.owner (0, 36)
-- 121 model.kept (0, 1400)
-- 122 model.m (0, 1872)
-- 123 model.n (0, 1872)
-- 124 model.isMarked (2, 1872)
-- 125 model.have (1, 12)
-- 126 model.off (1, 12)
-- 127 model.groups (0, 4096)
-- 128 model.ended (0, 468)
-- 129 model.by (0, 36)
-- 130 model.free (0, 6)
def fKl : List (Nat × Nat) := [(20, 0), (13, 0), (0, 180), (13, 0), (0, 180), (16, 0), (0, 160), (15, 0), (0, 4), (0, 4), (0, 4), (0, 4), (0, 4), (2, 4), (0, 80), (0, 80), (0, 80), (17, 0), (15, 0), (0, 4), (0, 4), (0, 4), (0, 4), (0, 4), (2, 4), (0, 80), (0, 80), (0, 80), (0, 144), (0, 4), (0, 12), (0, 12), (0, 12), (0, 12), (3, 2), (17, 0), (15, 0), (0, 4), (0, 4), (0, 4), (0, 4), (0, 4), (2, 4), (0, 80), (0, 80), (0, 80), (0, 144), (0, 4), (0, 12), (0, 12), (0, 12), (0, 12), (17, 0), (15, 0), (0, 4), (0, 4), (0, 4), (0, 4), (0, 4), (2, 4), (0, 80), (0, 80), (0, 80), (0, 144), (0, 4), (0, 12), (0, 12), (0, 12), (0, 12), (10, 0), (0, 1872), (10, 0), (0, 1872), (10, 0), (0, 1872), (10, 0), (0, 468), (14, 0), (0, 468), (11, 0), (1, 6), (1, 6), (1, 12), (0, 4096), (0, 36), (12, 0), (0, 6), (19, 0), (0, 36), (0, 468), (0, 6), (0, 6), (18, 0), (0, 36), (19, 0), (0, 36), (0, 468), (0, 6), (0, 6), (21, 0), (0, 4), (0, 160), (0, 8), (0, 8), (0, 8), (0, 8), (0, 8), (0, 8), (0, 160), (0, 160), (0, 160), (0, 144), (0, 12), (0, 12), (0, 12), (0, 12), (1, 12), (0, 36), (0, 6), (0, 36), (0, 1400), (0, 1872), (0, 1872), (2, 1872), (1, 12), (1, 12), (0, 4096), (0, 468), (0, 36), (0, 6)]
def fK (o : Nat) : Nat × Nat := match o with
  | 0 => (99, 0)
  | k + 1 => fKl.getD k (99, 0)
def fT : Nat → u_T := fun ci => match ci with
  | 0 => TX0
  | 1 => TX1
  | 2 => TX2
  | 3 => TX3
  | 4 => TX4
  | 5 => TX5
  | 6 => TX6
  | 7 => TX7
  | 8 => TX8
  | 9 => TX9
  | 10 => TX10
  | _ => TX11
def fR : Nat → String := fun ci => match ci with
  | 0 => RX0
  | 1 => RX1
  | 2 => RX2
  | 3 => RX3
  | 4 => RX4
  | 5 => RX5
  | 6 => RX6
  | 7 => RX7
  | 8 => RX8
  | 9 => RX9
  | 10 => RX10
  | _ => RX11
def fY : Nat → (Nat → FieldType) := fun ci => match ci with
  | 0 => tyX0
  | 1 => tyX1
  | 2 => tyX2
  | 3 => tyX3
  | 4 => tyX4
  | 5 => tyX5
  | 6 => tyX6
  | 7 => tyX7
  | 8 => tyX8
  | 9 => tyX9
  | 10 => tyX10
  | _ => tyX11
def fN : Nat → Nat := fun ci => match ci with
  | 0 => 5
  | 1 => 7
  | 2 => 2
  | 3 => 4
  | 4 => 2
  | 5 => 11
  | 6 => 6
  | 7 => 9
  | 8 => 5
  | 9 => 5
  | 10 => 15
  | _ => 46
def ffin (ci k : Nat) : Bool := (fT ci k).2.2.2
def fkR (ci k : Nat) : Bool := match fY ci k with
  | .object _ => true
  | .array _ => true
  | _ => false
def fkB (ci k : Nat) : Bool := match fY ci k with
  | .boolean => true
  | _ => false
def atc (t : ArrayType) : Nat := match t with
  | .int => 0
  | .long => 1
  | .boolean => 2
  | _ => 9
def szo (o : Nat) : Nat := bif Nat.ble 10 (fK o).1 then fN ((fK o).1 - 10) else (fK o).2
def SL (n : Nat) : Nat := match n with
  | 0 => 0
  | k + 1 => SL k + szo (k + 1)
def gtbl : List Cond := lw_tbl.filter goodWord
def fNest : List (String × Nat × MethodName × String) := [("ForecastHall", 23, ⟨"ForecastHall$Reader", "<init>", "()V"⟩, "ForecastHall"), ("ForecastHall", 59, ⟨"ForecastHall$Marks", "<init>", "()V"⟩, "ForecastHall"), ("ForecastHall", 80, ⟨"ForecastHall$Times", "<init>", "()V"⟩, "ForecastHall"), ("ForecastHall", 87, ⟨"ForecastHall$Share", "<init>", "()V"⟩, "ForecastHall"), ("ForecastHall$Share", 17, ⟨"ForecastHall$Times", "<init>", "()V"⟩, "ForecastHall"), ("ForecastHall$Reader", 43, ⟨"ForecastHall", "isLetter", "(I)Z"⟩, "ForecastHall")]
theorem cl_at (ci : Nat) (h : ci < 12) : vwCl[ci]? = some (fR ci, fT ci, fN ci) := by
  match ci, h with
  | 0, _ => rfl
  | 1, _ => rfl
  | 2, _ => rfl
  | 3, _ => rfl
  | 4, _ => rfl
  | 5, _ => rfl
  | 6, _ => rfl
  | 7, _ => rfl
  | 8, _ => rfl
  | 9, _ => rfl
  | 10, _ => rfl
  | 11, _ => rfl
  | k + 12, h => exact absurd h (by omega)
theorem fY_ok (ci : Nat) (h : ci < 12) : ∀ k, k < fN ci → parseFieldDescriptor (fT ci k).2.2.1 = some (fY ci k) := by
  match ci, h with
  | 0, _ => exact tyX0_ok
  | 1, _ => exact tyX1_ok
  | 2, _ => exact tyX2_ok
  | 3, _ => exact tyX3_ok
  | 4, _ => exact tyX4_ok
  | 5, _ => exact tyX5_ok
  | 6, _ => exact tyX6_ok
  | 7, _ => exact tyX7_ok
  | 8, _ => exact tyX8_ok
  | 9, _ => exact tyX9_ok
  | 10, _ => exact tyX10_ok
  | 11, _ => exact tyX11_ok
  | k + 12, h => exact absurd h (by omega)
theorem fT_nm (ci : Nat) (h : ci < 12) : ∀ a, a < fN ci → ∀ b, b < fN ci → a ≠ b → (fT ci a).2.1 ≠ (fT ci b).2.1 := by
  match ci, h with
  | 0, _ => exact nmX0
  | 1, _ => exact nmX1
  | 2, _ => exact nmX2
  | 3, _ => exact nmX3
  | 4, _ => exact nmX4
  | 5, _ => exact nmX5
  | 6, _ => exact nmX6
  | 7, _ => exact nmX7
  | 8, _ => exact nmX8
  | 9, _ => exact nmX9
  | 10, _ => exact nmX10
  | 11, _ => exact nmX11
  | k + 12, h => exact absurd h (by omega)
theorem fT_own (ci : Nat) (h : ci < 12) : ∀ k, k < fN ci → (fT ci k).1 = fR ci := by
  match ci, h with
  | 0, _ => exact (by decide +kernel)
  | 1, _ => exact (by decide +kernel)
  | 2, _ => exact (by decide +kernel)
  | 3, _ => exact (by decide +kernel)
  | 4, _ => exact (by decide +kernel)
  | 5, _ => exact (by decide +kernel)
  | 6, _ => exact (by decide +kernel)
  | 7, _ => exact (by decide +kernel)
  | 8, _ => exact (by decide +kernel)
  | 9, _ => exact (by decide +kernel)
  | 10, _ => exact (by decide +kernel)
  | 11, _ => exact (by decide +kernel)
  | k + 12, h => exact absurd h (by omega)
set_option maxRecDepth 100000 in
theorem gt_ws (ci : Nat) (h : ci < 12) : ∀ w ∈ u_ws (fR ci) (fT ci) (fN ci), w ∈ gtbl := by
  match ci, h with
  | 0, _ => decide +kernel
  | 1, _ => decide +kernel
  | 2, _ => decide +kernel
  | 3, _ => decide +kernel
  | 4, _ => decide +kernel
  | 5, _ => decide +kernel
  | 6, _ => decide +kernel
  | 7, _ => decide +kernel
  | 8, _ => decide +kernel
  | 9, _ => decide +kernel
  | 10, _ => decide +kernel
  | 11, _ => decide +kernel
  | k + 12, h => exact absurd h (by omega)
