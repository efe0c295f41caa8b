/-! ===== POOLS: what each class's code speaks of, and that the tables say so ===== -/
def asL {α : Type} (xs : List (Nat × α)) (n : Nat) : Option α := match xs with
  | [] => none
  | (j, a) :: t => bif Nat.beq j n then some a else asL t n
theorem as_mem {α : Type} {xs : List (Nat × α)} {n : Nat} {a : α} (h : asL xs n = some a) : (n, a) ∈ xs := by
  induction xs with
  | nil => simp [asL] at h
  | cons q t ih =>
    obtain ⟨j, b⟩ := q
    unfold asL at h
    cases hj : Nat.beq j n with
    | true =>
      rw [hj] at h
      have h1 : j = n := Nat.eq_of_beq_eq_true hj
      cases h
      subst h1
      exact List.mem_cons_self
    | false =>
      rw [hj] at h
      exact List.mem_cons_of_mem _ (ih h)
abbrev PLt : Type := List (Nat × Nat × Nat) × List (Nat × Int) × List (Nat × Int) × List (Nat × Nat)
def poolOf (q : PLt) : Pool := (asL q.1, asL q.2.1, asL q.2.2.1, asL q.2.2.2)
abbrev PLp : Type := List Nat × List Nat × List Nat × List Nat
theorem zip_get {α : Type} {xs : List α} {ps : List Nat} {Pr : α → Nat → Prop} (hl : ps.length = xs.length) (h : ∀ e ∈ xs.zip ps, Pr e.1 e.2) {a : α} (ha : a ∈ xs) : ∃ i, Pr a i := by
  obtain ⟨k, hk⟩ := List.getElem?_of_mem ha
  have hlt := (List.getElem?_eq_some_iff.mp hk).1
  have hp := List.getElem?_eq_getElem (l := ps) (i := k) (by omega)
  exact ⟨ps[k], h (a, ps[k]) (List.mem_of_getElem? (i := k) ((List.getElem?_zip_eq_some (z := (a, ps[k]))).mpr ⟨hk, hp⟩))⟩
theorem g_at {w : Cond} (i : Nat) (h : lw_tbl[i]? = some w ∧ goodWord w = true) : w ∈ gtbl := List.mem_filter.mpr ⟨List.mem_of_getElem? h.1, h.2⟩
abbrev atW (i : Nat) (w : Cond) : Prop := lw_tbl[i]? = some w ∧ goodWord w = true
theorem pool_ok {own : String} {q : PLt} (p : PLp) (hl : p.1.length = q.1.length ∧ p.2.1.length = q.2.1.length ∧ p.2.2.1.length = q.2.2.1.length ∧ p.2.2.2.length = q.2.2.2.length) (h1 : ∀ e ∈ q.1.zip p.1, e.1.2.1 < 12 ∧ e.1.2.2 < fN e.1.2.1 ∧ atW e.2 (.fieldLink own e.1.1 (fR e.1.2.1) (fT e.1.2.1 e.1.2.2).2.1 (fT e.1.2.1 e.1.2.2).2.2.1)) (h2 : ∀ e ∈ q.2.1.zip p.2.1, (-2147483648 ≤ e.1.2 ∧ e.1.2 ≤ 2147483647) ∧ atW e.2 (.constant own e.1.1 (Int32.ofInt e.1.2))) (h3 : ∀ e ∈ q.2.2.1.zip p.2.2.1, (-9223372036854775808 ≤ e.1.2 ∧ e.1.2 ≤ 9223372036854775807) ∧ atW e.2 (.constantLong own e.1.1 (Int64.ofInt e.1.2))) (h4 : ∀ e ∈ q.2.2.2.zip p.2.2.2, e.1.2 < 12 ∧ atW e.2 (.classLink own e.1.1 (fR e.1.2))) (h5 : ∀ ci, ci < 12 → Cond.instantiable (fR ci) (fN ci) ∈ gtbl ∧ Cond.initialized (fR ci) ∈ gtbl) : PoolOk own (poolOf q) := by
  refine ⟨fun n ci k h => ?_, fun n a h => ?_, fun n a h => ?_, fun n ci h => ?_⟩
  · obtain ⟨i, hm⟩ := zip_get (Pr := fun (e : Nat × Nat × Nat) i => e.2.1 < 12 ∧ e.2.2 < fN e.2.1 ∧ atW i (.fieldLink own e.1 (fR e.2.1) (fT e.2.1 e.2.2).2.1 (fT e.2.1 e.2.2).2.2.1)) hl.1 h1 (as_mem h)
    exact ⟨hm.1, hm.2.1, g_at _ hm.2.2⟩
  · obtain ⟨i, hm⟩ := zip_get (Pr := fun (e : Nat × Int) i => (-2147483648 ≤ e.2 ∧ e.2 ≤ 2147483647) ∧ atW i (.constant own e.1 (Int32.ofInt e.2))) hl.2.1 h2 (as_mem h)
    exact ⟨hm.1, g_at _ hm.2⟩
  · obtain ⟨i, hm⟩ := zip_get (Pr := fun (e : Nat × Int) i => (-9223372036854775808 ≤ e.2 ∧ e.2 ≤ 9223372036854775807) ∧ atW i (.constantLong own e.1 (Int64.ofInt e.2))) hl.2.2.1 h3 (as_mem h)
    exact ⟨hm.1, g_at _ hm.2⟩
  · obtain ⟨i, hm⟩ := zip_get (Pr := fun (e : Nat × Nat) i => e.2 < 12 ∧ atW i (.classLink own e.1 (fR e.2))) hl.2.2.2 h4 (as_mem h)
    exact ⟨hm.1, g_at _ hm.2, h5 _ hm.1⟩
theorem cls_ok (ci : Nat) (h : ci < 12) : Cond.instantiable (fR ci) (fN ci) ∈ gtbl ∧ Cond.initialized (fR ci) ∈ gtbl := by
  match ci, h with
  | 0, _ => exact ⟨g_at 286 (by decide +kernel), g_at 81 (by decide +kernel)⟩
  | 1, _ => exact ⟨g_at 325 (by decide +kernel), g_at 83 (by decide +kernel)⟩
  | 2, _ => exact ⟨g_at 361 (by decide +kernel), g_at 84 (by decide +kernel)⟩
  | 3, _ => exact ⟨g_at 98 (by decide +kernel), g_at 76 (by decide +kernel)⟩
  | 4, _ => exact ⟨g_at 312 (by decide +kernel), g_at 82 (by decide +kernel)⟩
  | 5, _ => exact ⟨g_at 149 (by decide +kernel), g_at 79 (by decide +kernel)⟩
  | 6, _ => exact ⟨g_at 143 (by decide +kernel), g_at 78 (by decide +kernel)⟩
  | 7, _ => exact ⟨g_at 236 (by decide +kernel), g_at 80 (by decide +kernel)⟩
  | 8, _ => exact ⟨g_at 401 (by decide +kernel), g_at 86 (by decide +kernel)⟩
  | 9, _ => exact ⟨g_at 377 (by decide +kernel), g_at 85 (by decide +kernel)⟩
  | 10, _ => exact ⟨g_at 90 (by decide +kernel), g_at 75 (by decide +kernel)⟩
  | 11, _ => exact ⟨g_at 1045 (by decide +kernel), g_at 87 (by decide +kernel)⟩
  | k + 12, h => exact absurd h (by omega)
def plX0 : PLt := ([(9, 0, 3), (15, 0, 4), (27, 0, 0), (30, 0, 1), (34, 0, 2), (43, 3, 2), (48, 7, 0), (54, 5, 2), (82, 5, 3), (93, 5, 4), (106, 5, 9), (114, 5, 10), (123, 5, 8), (135, 7, 2), (142, 3, 0), (148, 3, 1)], [(38, 2000000000)], [(100, 2000000000000000), (112, 2000000000), (121, 1000000000000000)], [])
abbrev PX0 : Pool := poolOf plX0
set_option maxRecDepth 100000 in
theorem PX0_ok : PoolOk RX0 PX0 := pool_ok ([296, 298, 293, 294, 295, 129, 249, 163, 166, 171, 185, 188, 183, 256, 119, 123], [682], [703, 702, 707], []) ⟨rfl, rfl, rfl, rfl⟩ (by decide +kernel) (by decide +kernel) (by decide +kernel) (by decide +kernel) cls_ok
def oiX0 : Nat → Bool := fun n => Nat.beq n 3
theorem oiX0_ok {fr lo : Nat} (hf : 1 ≤ fr) (hl : 20 ≤ lo) : ∀ n, oiX0 n = true → (Cond.methodLink RX0 n objectInit ∈ gtbl ∧ Cond.instanceMethod objectInit ∈ gtbl ∧ Cond.code objectInit ⟨#[0xb1]⟩ 1 none ∈ gtbl) ∧ 1 ≤ fr ∧ 20 ≤ lo := by
  intro n h
  have h1 := Nat.eq_of_beq_eq_true h
  subst h1
  exact ⟨⟨g_at 290 (by decide +kernel), g_at 95 (by decide +kernel), g_at 96 (by decide +kernel)⟩, hf, hl⟩
def plX1 : PLt := ([(9, 1, 2), (15, 1, 3), (18, 1, 4), (21, 1, 5), (25, 1, 6), (33, 1, 0), (37, 1, 1), (40, 3, 1), (51, 3, 0)], [], [(31, 2000000000000)], [])
abbrev PX1 : Pool := poolOf plX1
set_option maxRecDepth 100000 in
theorem PX1_ok : PoolOk RX1 PX1 := pool_ok ([338, 339, 340, 341, 342, 335, 337, 122, 118], [], [334], []) ⟨rfl, rfl, rfl, rfl⟩ (by decide +kernel) (by decide +kernel) (by decide +kernel) (by decide +kernel) cls_ok
def oiX1 : Nat → Bool := fun n => Nat.beq n 3
theorem oiX1_ok {fr lo : Nat} (hf : 1 ≤ fr) (hl : 20 ≤ lo) : ∀ n, oiX1 n = true → (Cond.methodLink RX1 n objectInit ∈ gtbl ∧ Cond.instanceMethod objectInit ∈ gtbl ∧ Cond.code objectInit ⟨#[0xb1]⟩ 1 none ∈ gtbl) ∧ 1 ≤ fr ∧ 20 ≤ lo := by
  intro n h
  have h1 := Nat.eq_of_beq_eq_true h
  subst h1
  exact ⟨⟨g_at 329 (by decide +kernel), g_at 95 (by decide +kernel), g_at 96 (by decide +kernel)⟩, hf, hl⟩
def plX2 : PLt := ([(9, 2, 0), (15, 2, 1)], [], [], [])
abbrev PX2 : Pool := poolOf plX2
set_option maxRecDepth 100000 in
theorem PX2_ok : PoolOk RX2 PX2 := pool_ok ([366, 368], [], [], []) ⟨rfl, rfl, rfl, rfl⟩ (by decide +kernel) (by decide +kernel) (by decide +kernel) (by decide +kernel) cls_ok
def oiX2 : Nat → Bool := fun n => Nat.beq n 3
theorem oiX2_ok {fr lo : Nat} (hf : 1 ≤ fr) (hl : 20 ≤ lo) : ∀ n, oiX2 n = true → (Cond.methodLink RX2 n objectInit ∈ gtbl ∧ Cond.instanceMethod objectInit ∈ gtbl ∧ Cond.code objectInit ⟨#[0xb1]⟩ 1 none ∈ gtbl) ∧ 1 ≤ fr ∧ 20 ≤ lo := by
  intro n h
  have h1 := Nat.eq_of_beq_eq_true h
  subst h1
  exact ⟨⟨g_at 365 (by decide +kernel), g_at 95 (by decide +kernel), g_at 96 (by decide +kernel)⟩, hf, hl⟩
def plX3 : PLt := ([(9, 3, 3), (28, 3, 0), (32, 3, 1), (35, 3, 2)], [], [], [])
abbrev PX3 : Pool := poolOf plX3
set_option maxRecDepth 100000 in
theorem PX3_ok : PoolOk RX3 PX3 := pool_ok ([131, 117, 121, 125], [], [], []) ⟨rfl, rfl, rfl, rfl⟩ (by decide +kernel) (by decide +kernel) (by decide +kernel) (by decide +kernel) cls_ok
def oiX3 : Nat → Bool := fun n => Nat.beq n 3
theorem oiX3_ok {fr lo : Nat} (hf : 1 ≤ fr) (hl : 20 ≤ lo) : ∀ n, oiX3 n = true → (Cond.methodLink RX3 n objectInit ∈ gtbl ∧ Cond.instanceMethod objectInit ∈ gtbl ∧ Cond.code objectInit ⟨#[0xb1]⟩ 1 none ∈ gtbl) ∧ 1 ≤ fr ∧ 20 ≤ lo := by
  intro n h
  have h1 := Nat.eq_of_beq_eq_true h
  subst h1
  exact ⟨⟨g_at 102 (by decide +kernel), g_at 95 (by decide +kernel), g_at 96 (by decide +kernel)⟩, hf, hl⟩
def plX4 : PLt := ([(9, 4, 0), (15, 4, 1), (19, 3, 2), (42, 7, 0), (46, 5, 2), (55, 5, 3), (62, 5, 4), (69, 5, 9), (76, 5, 10)], [], [], [])
abbrev PX4 : Pool := poolOf plX4
set_option maxRecDepth 100000 in
theorem PX4_ok : PoolOk RX4 PX4 := pool_ok ([317, 318, 128, 250, 164, 168, 173, 186, 189], [], [], []) ⟨rfl, rfl, rfl, rfl⟩ (by decide +kernel) (by decide +kernel) (by decide +kernel) (by decide +kernel) cls_ok
def oiX4 : Nat → Bool := fun n => Nat.beq n 3
theorem oiX4_ok {fr lo : Nat} (hf : 1 ≤ fr) (hl : 20 ≤ lo) : ∀ n, oiX4 n = true → (Cond.methodLink RX4 n objectInit ∈ gtbl ∧ Cond.instanceMethod objectInit ∈ gtbl ∧ Cond.code objectInit ⟨#[0xb1]⟩ 1 none ∈ gtbl) ∧ 1 ≤ fr ∧ 20 ≤ lo := by
  intro n h
  have h1 := Nat.eq_of_beq_eq_true h
  subst h1
  exact ⟨⟨g_at 316 (by decide +kernel), g_at 95 (by decide +kernel), g_at 96 (by decide +kernel)⟩, hf, hl⟩
def plX5 : PLt := ([(9, 5, 2), (15, 5, 3), (18, 5, 4), (21, 5, 5), (24, 5, 6), (27, 5, 7), (31, 5, 8), (34, 5, 9), (37, 5, 10), (43, 5, 0), (47, 5, 1)], [(77, 2000000000)], [(73, 1000000000000000), (75, (-1000000000000000)), (78, 2), (84, 1000000000), (86, (-1000000000))], [])
abbrev PX5 : Pool := poolOf plX5
set_option maxRecDepth 100000 in
theorem PX5_ok : PoolOk RX5 PX5 := pool_ok ([162, 165, 170, 174, 176, 179, 182, 184, 187, 158, 160], [714], [712, 713, 715, 719, 720], []) ⟨rfl, rfl, rfl, rfl⟩ (by decide +kernel) (by decide +kernel) (by decide +kernel) (by decide +kernel) cls_ok
def oiX5 : Nat → Bool := fun n => Nat.beq n 3
theorem oiX5_ok {fr lo : Nat} (hf : 1 ≤ fr) (hl : 20 ≤ lo) : ∀ n, oiX5 n = true → (Cond.methodLink RX5 n objectInit ∈ gtbl ∧ Cond.instanceMethod objectInit ∈ gtbl ∧ Cond.code objectInit ⟨#[0xb1]⟩ 1 none ∈ gtbl) ∧ 1 ≤ fr ∧ 20 ≤ lo := by
  intro n h
  have h1 := Nat.eq_of_beq_eq_true h
  subst h1
  exact ⟨⟨g_at 153 (by decide +kernel), g_at 95 (by decide +kernel), g_at 96 (by decide +kernel)⟩, hf, hl⟩
def plX6 : PLt := ([(9, 6, 0), (18, 6, 2), (22, 6, 1), (29, 6, 3), (36, 6, 4), (47, 5, 3), (56, 5, 4), (59, 5, 1), (68, 5, 6), (71, 6, 5), (74, 5, 7)], [], [], [(15, 5)])
abbrev PX6 : Pool := poolOf plX6
set_option maxRecDepth 100000 in
theorem PX6_ok : PoolOk RX6 PX6 := pool_ok ([214, 217, 215, 219, 220, 167, 172, 161, 177, 221, 180], [], [], [148]) ⟨rfl, rfl, rfl, rfl⟩ (by decide +kernel) (by decide +kernel) (by decide +kernel) (by decide +kernel) cls_ok
def oiX6 : Nat → Bool := fun n => Nat.beq n 3
theorem oiX6_ok {fr lo : Nat} (hf : 1 ≤ fr) (hl : 20 ≤ lo) : ∀ n, oiX6 n = true → (Cond.methodLink RX6 n objectInit ∈ gtbl ∧ Cond.instanceMethod objectInit ∈ gtbl ∧ Cond.code objectInit ⟨#[0xb1]⟩ 1 none ∈ gtbl) ∧ 1 ≤ fr ∧ 20 ≤ lo := by
  intro n h
  have h1 := Nat.eq_of_beq_eq_true h
  subst h1
  exact ⟨⟨g_at 147 (by decide +kernel), g_at 95 (by decide +kernel), g_at 96 (by decide +kernel)⟩, hf, hl⟩
def plX7 : PLt := ([(12, 7, 0), (18, 7, 1), (22, 7, 2), (25, 7, 5), (28, 7, 6), (31, 7, 7), (34, 7, 8), (45, 7, 3), (49, 7, 4)], [(40, 2000000), (52, 2000000000), (53, 1000000000), (54, (-1000000000))], [], [(9, 5)])
abbrev PX7 : Pool := poolOf plX7
set_option maxRecDepth 100000 in
theorem PX7_ok : PoolOk RX7 PX7 := pool_ok ([248, 252, 254, 261, 262, 263, 264, 258, 260], [247, 725, 726, 727], [], [241]) ⟨rfl, rfl, rfl, rfl⟩ (by decide +kernel) (by decide +kernel) (by decide +kernel) (by decide +kernel) cls_ok
def oiX7 : Nat → Bool := fun n => Nat.beq n 3
theorem oiX7_ok {fr lo : Nat} (hf : 1 ≤ fr) (hl : 20 ≤ lo) : ∀ n, oiX7 n = true → (Cond.methodLink RX7 n objectInit ∈ gtbl ∧ Cond.instanceMethod objectInit ∈ gtbl ∧ Cond.code objectInit ⟨#[0xb1]⟩ 1 none ∈ gtbl) ∧ 1 ≤ fr ∧ 20 ≤ lo := by
  intro n h
  have h1 := Nat.eq_of_beq_eq_true h
  subst h1
  exact ⟨⟨g_at 240 (by decide +kernel), g_at 95 (by decide +kernel), g_at 96 (by decide +kernel)⟩, hf, hl⟩
def plX8 : PLt := ([(9, 8, 0), (18, 8, 2), (22, 8, 3), (26, 8, 4), (30, 8, 1), (33, 3, 2), (54, 9, 0)], [(29, 1000000)], [], [(15, 9)])
abbrev PX8 : Pool := poolOf plX8
set_option maxRecDepth 100000 in
theorem PX8_ok : PoolOk RX8 PX8 := pool_ok ([408, 412, 413, 414, 410, 127, 383], [972], [], [406]) ⟨rfl, rfl, rfl, rfl⟩ (by decide +kernel) (by decide +kernel) (by decide +kernel) (by decide +kernel) cls_ok
def oiX8 : Nat → Bool := fun n => Nat.beq n 3
theorem oiX8_ok {fr lo : Nat} (hf : 1 ≤ fr) (hl : 20 ≤ lo) : ∀ n, oiX8 n = true → (Cond.methodLink RX8 n objectInit ∈ gtbl ∧ Cond.instanceMethod objectInit ∈ gtbl ∧ Cond.code objectInit ⟨#[0xb1]⟩ 1 none ∈ gtbl) ∧ 1 ≤ fr ∧ 20 ≤ lo := by
  intro n h
  have h1 := Nat.eq_of_beq_eq_true h
  subst h1
  exact ⟨⟨g_at 405 (by decide +kernel), g_at 95 (by decide +kernel), g_at 96 (by decide +kernel)⟩, hf, hl⟩
def plX9 : PLt := ([(9, 9, 0), (15, 9, 1), (18, 9, 2), (21, 9, 3), (24, 9, 4), (35, 3, 2), (59, 2, 1)], [], [], [])
abbrev PX9 : Pool := poolOf plX9
set_option maxRecDepth 100000 in
theorem PX9_ok : PoolOk RX9 PX9 := pool_ok ([382, 385, 386, 387, 388, 130, 370], [], [], []) ⟨rfl, rfl, rfl, rfl⟩ (by decide +kernel) (by decide +kernel) (by decide +kernel) (by decide +kernel) cls_ok
def oiX9 : Nat → Bool := fun n => Nat.beq n 3
theorem oiX9_ok {fr lo : Nat} (hf : 1 ≤ fr) (hl : 20 ≤ lo) : ∀ n, oiX9 n = true → (Cond.methodLink RX9 n objectInit ∈ gtbl ∧ Cond.instanceMethod objectInit ∈ gtbl ∧ Cond.code objectInit ⟨#[0xb1]⟩ 1 none ∈ gtbl) ∧ 1 ≤ fr ∧ 20 ≤ lo := by
  intro n h
  have h1 := Nat.eq_of_beq_eq_true h
  subst h1
  exact ⟨⟨g_at 381 (by decide +kernel), g_at 95 (by decide +kernel), g_at 96 (by decide +kernel)⟩, hf, hl⟩
def plX10 : PLt := ([(12, 10, 0), (18, 10, 1), (24, 10, 2), (31, 10, 3), (35, 10, 4), (44, 10, 6), (48, 10, 7), (51, 10, 8), (54, 10, 9), (60, 10, 10), (67, 10, 11), (74, 10, 12), (81, 10, 13), (88, 10, 14), (92, 7, 3), (103, 7, 4), (106, 10, 5), (121, 3, 2), (127, 2, 1), (138, 7, 2), (142, 6, 1), (153, 7, 0), (157, 6, 2), (164, 5, 0), (167, 5, 3), (170, 5, 5), (173, 5, 6), (176, 5, 7), (187, 7, 1), (212, 3, 1), (248, 3, 0), (264, 1, 0), (284, 1, 6), (290, 2, 0), (293, 9, 0), (317, 8, 1), (320, 8, 0), (342, 0, 3), (345, 0, 4)], [(137, (-2000000)), (186, 2000000), (193, (-2000000000)), (282, (-1000000000)), (283, 1000000000), (321, 100000), (322, 1000000), (337, (-1000000)), (354, 2000000000)], [(210, (-2000000000000)), (251, 2000000000000), (253, (-1000000000000)), (255, 1000000000000), (355, 4)], [(7, 3), (21, 6), (28, 7), (39, 0), (57, 4), (64, 1), (71, 2), (78, 9), (85, 8)])
abbrev PX10 : Pool := poolOf plX10
set_option maxRecDepth 100000 in
theorem PX10_ok : PoolOk RX10 PX10 := pool_ok ([426, 427, 428, 429, 430, 432, 433, 434, 435, 436, 437, 438, 439, 440, 257, 259, 431, 126, 369, 255, 216, 251, 218, 159, 169, 175, 178, 181, 253, 124, 120, 336, 343, 367, 384, 411, 409, 297, 299], [532, 629, 637, 908, 909, 1001, 531, 530, 1014], [772, 842, 843, 844, 1015], [97, 142, 235, 285, 311, 324, 360, 376, 400]) ⟨rfl, rfl, rfl, rfl⟩ (by decide +kernel) (by decide +kernel) (by decide +kernel) (by decide +kernel) cls_ok
def oiX10 : Nat → Bool := fun n => Nat.beq n 1
theorem oiX10_ok {fr lo : Nat} (hf : 1 ≤ fr) (hl : 20 ≤ lo) : ∀ n, oiX10 n = true → (Cond.methodLink RX10 n objectInit ∈ gtbl ∧ Cond.instanceMethod objectInit ∈ gtbl ∧ Cond.code objectInit ⟨#[0xb1]⟩ 1 none ∈ gtbl) ∧ 1 ≤ fr ∧ 20 ≤ lo := by
  intro n h
  have h1 := Nat.eq_of_beq_eq_true h
  subst h1
  exact ⟨⟨g_at 94 (by decide +kernel), g_at 95 (by decide +kernel), g_at 96 (by decide +kernel)⟩, hf, hl⟩
def plX11 : PLt := ([(7, 11, 0), (13, 11, 1), (16, 11, 3), (19, 11, 4), (23, 11, 6), (26, 11, 9), (29, 11, 10), (32, 11, 11), (35, 11, 12), (38, 11, 13), (41, 11, 14), (44, 11, 15), (47, 11, 16), (50, 11, 17), (53, 11, 18), (56, 11, 20), (59, 11, 21), (62, 11, 22), (65, 11, 23), (68, 11, 26), (72, 11, 27), (75, 11, 28), (78, 11, 29), (81, 11, 31), (84, 11, 37), (87, 11, 38), (90, 11, 39), (94, 11, 40), (97, 11, 41), (100, 11, 42), (103, 11, 43), (106, 11, 44), (109, 11, 45), (116, 11, 19), (138, 11, 30), (143, 11, 2), (157, 11, 5), (162, 11, 33), (165, 11, 32), (181, 11, 8), (187, 11, 34), (203, 11, 7), (211, 11, 35), (214, 11, 36), (290, 11, 24), (293, 11, 25)], [(115, 2000000), (154, (-2000000)), (176, 100000), (237, 2000000000), (277, (-2000000000))], [(122, 2000000000000), (132, 3), (134, 2), (136, 6), (141, 9), (150, (-1000000)), (152, 1000000), (155, 8), (160, 255), (172, 48), (174, 57), (206, 4), (229, 2000000000), (235, 1000000000000000), (242, 1000000000), (272, 12), (284, (-2000000000000)), (286, (-1000000000000)), (288, 1000000000000), (303, (-1000000000)), (305, 5), (307, 20), (312, (-1)), (324, 100000)], [])
abbrev PX11 : Pool := poolOf plX11
set_option maxRecDepth 100000 in
theorem PX11_ok : PoolOk RX11 PX11 := pool_ok ([1060, 1061, 1063, 1064, 1066, 1069, 1070, 1071, 1072, 1073, 1074, 1075, 1076, 1077, 1078, 1080, 1081, 1082, 1083, 1086, 1087, 1088, 1089, 1091, 1097, 1098, 1099, 1100, 1101, 1102, 1103, 1104, 1105, 1079, 1090, 1062, 1065, 1093, 1092, 1068, 1094, 1067, 1095, 1096, 1084, 1085], [1054, 1227, 1268, 1343, 1303], [1059, 1224, 1203, 1204, 1216, 1225, 1226, 1232, 1233, 1266, 1267, 1281, 1338, 1342, 1347, 1302, 1368, 1393, 1394, 1419, 1428, 1429, 1438, 1467], []) ⟨rfl, rfl, rfl, rfl⟩ (by decide +kernel) (by decide +kernel) (by decide +kernel) (by decide +kernel) cls_ok
def oiX11 : Nat → Bool := fun n => Nat.beq n 1
theorem oiX11_ok {fr lo : Nat} (hf : 1 ≤ fr) (hl : 20 ≤ lo) : ∀ n, oiX11 n = true → (Cond.methodLink RX11 n objectInit ∈ gtbl ∧ Cond.instanceMethod objectInit ∈ gtbl ∧ Cond.code objectInit ⟨#[0xb1]⟩ 1 none ∈ gtbl) ∧ 1 ≤ fr ∧ 20 ≤ lo := by
  intro n h
  have h1 := Nat.eq_of_beq_eq_true h
  subst h1
  exact ⟨⟨g_at 1049 (by decide +kernel), g_at 95 (by decide +kernel), g_at 96 (by decide +kernel)⟩, hf, hl⟩
def plL : PLt := ([], [], [(26, 4294967295)], [(7, 10), (10, 11)])
abbrev PL : Pool := poolOf plL
set_option maxRecDepth 100000 in
theorem PL_ok : PoolOk RL PL := pool_ok ([], [], [1496], [89, 1044]) ⟨rfl, rfl, rfl, rfl⟩ (by decide +kernel) (by decide +kernel) (by decide +kernel) (by decide +kernel) cls_ok
def oiN : Nat → Bool := fun _ => false
theorem oiN_ok {own : String} {fr lo : Nat} : ∀ n, oiN n = true → (Cond.methodLink own n objectInit ∈ gtbl ∧ Cond.instanceMethod objectInit ∈ gtbl ∧ Cond.code objectInit ⟨#[0xb1]⟩ 1 none ∈ gtbl) ∧ 1 ≤ fr ∧ 20 ≤ lo := fun n h => by cases h
def PN : Pool := (fun _ => none, fun _ => none, fun _ => none, fun _ => none)
