/-! ===== POOLS: what each class's code speaks of, and that the tables say so ===== -/
def asL {α : Type} (xs : List (Nat × α)) (n : Nat) : Option α := match xs with
  | [] => none
  | q :: t => bif Nat.beq q.1 n then some q.2 else asL t n
theorem as_mem {α : Type} {xs : List (Nat × α)} {n : Nat} {a : α} (h : asL xs n = some a) : (n, a) ∈ xs := by
  induction xs with
  | nil => simp [asL] at h
  | cons q t ih =>
    unfold asL at h
    cases hj : Nat.beq q.1 n with
    | true =>
      rw [hj] at h
      have h1 : q.1 = n := Nat.eq_of_beq_eq_true hj
      cases h
      subst h1
      exact List.mem_cons_self
    | false =>
      rw [hj] at h
      exact List.mem_cons_of_mem _ (ih h)
abbrev PLt : Type := List (Nat × Nat × Nat × Nat) × List (Nat × Int × Nat) × List (Nat × Int × Nat) × List (Nat × Nat × Nat)
def poolOf (q : PLt) : Pool := (fun n => (asL q.1 n).map (fun e => (e.1, e.2.1)), fun n => (asL q.2.1 n).map (fun e => e.1), fun n => (asL q.2.2.1 n).map (fun e => e.1), fun n => (asL q.2.2.2 n).map (fun e => e.1))
theorem g_at {w : Cond} (i : Nat) (h : lw_tbl[i]? = some w ∧ goodWord w = true) : w ∈ gtbl := List.mem_filter.mpr ⟨List.mem_of_getElem? h.1, h.2⟩
abbrev atW (i : Nat) (w : Cond) : Prop := lw_tbl[i]? = some w ∧ goodWord w = true
theorem pool_ok {own : String} {q : PLt} (h1 : ∀ e ∈ q.1, e.2.1 < 12 ∧ e.2.2.1 < fN e.2.1 ∧ atW e.2.2.2 (.fieldLink own e.1 (fR e.2.1) (fT e.2.1 e.2.2.1).2.1 (fT e.2.1 e.2.2.1).2.2.1)) (h2 : ∀ e ∈ q.2.1, (-2147483648 ≤ e.2.1 ∧ e.2.1 ≤ 2147483647) ∧ atW e.2.2 (.constant own e.1 (Int32.ofInt e.2.1))) (h3 : ∀ e ∈ q.2.2.1, (-9223372036854775808 ≤ e.2.1 ∧ e.2.1 ≤ 9223372036854775807) ∧ atW e.2.2 (.constantLong own e.1 (Int64.ofInt e.2.1))) (h4 : ∀ e ∈ q.2.2.2, e.2.1 < 12 ∧ atW e.2.2 (.classLink own e.1 (fR e.2.1))) (h5 : ∀ ci, ci < 12 → Cond.instantiable (fR ci) (fN ci) ∈ gtbl ∧ Cond.initialized (fR ci) ∈ gtbl) : PoolOk own (poolOf q) := by
  refine ⟨fun n ci k h => ?_, fun n a h => ?_, fun n a h => ?_, fun n ci h => ?_⟩
  · obtain ⟨e, he, hq⟩ := Option.map_eq_some_iff.mp h
    have hm := h1 _ (as_mem he)
    obtain ⟨e1, e2, e3⟩ := e
    cases hq
    exact ⟨hm.1, hm.2.1, g_at _ hm.2.2⟩
  · obtain ⟨e, he, hq⟩ := Option.map_eq_some_iff.mp h
    have hm := h2 _ (as_mem he)
    cases hq
    exact ⟨hm.1, g_at _ hm.2⟩
  · obtain ⟨e, he, hq⟩ := Option.map_eq_some_iff.mp h
    have hm := h3 _ (as_mem he)
    cases hq
    exact ⟨hm.1, g_at _ hm.2⟩
  · obtain ⟨e, he, hq⟩ := Option.map_eq_some_iff.mp h
    have hm := h4 _ (as_mem he)
    cases hq
    exact ⟨hm.1, g_at _ hm.2, h5 _ hm.1⟩
theorem cls_ok (ci : Nat) (h : ci < 12) : Cond.instantiable (fR ci) (fN ci) ∈ gtbl ∧ Cond.initialized (fR ci) ∈ gtbl := by
  match ci, h with
  | 0, _ => exact ⟨g_at 286 (by decide +kernel), g_at 81 (by decide +kernel)⟩
  | 1, _ => exact ⟨g_at 325 (by decide +kernel), g_at 83 (by decide +kernel)⟩
  | 2, _ => exact ⟨g_at 361 (by decide +kernel), g_at 84 (by decide +kernel)⟩
  | 3, _ => exact ⟨g_at 98 (by decide +kernel), g_at 76 (by decide +kernel)⟩
  | 4, _ => exact ⟨g_at 312 (by decide +kernel), g_at 82 (by decide +kernel)⟩
  | 5, _ => exact ⟨g_at 149 (by decide +kernel), g_at 79 (by decide +kernel)⟩
  | 6, _ => exact ⟨g_at 143 (by decide +kernel), g_at 78 (by decide +kernel)⟩
  | 7, _ => exact ⟨g_at 236 (by decide +kernel), g_at 80 (by decide +kernel)⟩
  | 8, _ => exact ⟨g_at 401 (by decide +kernel), g_at 86 (by decide +kernel)⟩
  | 9, _ => exact ⟨g_at 377 (by decide +kernel), g_at 85 (by decide +kernel)⟩
  | 10, _ => exact ⟨g_at 90 (by decide +kernel), g_at 75 (by decide +kernel)⟩
  | 11, _ => exact ⟨g_at 1045 (by decide +kernel), g_at 87 (by decide +kernel)⟩
  | k + 12, h => exact absurd h (by omega)
def plX0 : PLt := ([(9, 0, 3, 296), (15, 0, 4, 298), (27, 0, 0, 293), (30, 0, 1, 294), (34, 0, 2, 295), (43, 3, 2, 129), (48, 7, 0, 249), (54, 5, 2, 163), (82, 5, 3, 166), (93, 5, 4, 171), (106, 5, 9, 185), (114, 5, 10, 188), (123, 5, 8, 183), (135, 7, 2, 256), (142, 3, 0, 119), (148, 3, 1, 123)], [(38, 2000000000, 682)], [(100, 2000000000000000, 703), (112, 2000000000, 702), (121, 1000000000000000, 707)], [])
abbrev PX0 : Pool := poolOf plX0
set_option maxRecDepth 100000 in
theorem PX0_ok : PoolOk RX0 PX0 := pool_ok (by decide +kernel) (by decide +kernel) (by decide +kernel) (by decide +kernel) cls_ok
def oiX0 : Nat → Bool := fun n => Nat.beq n 3
theorem oiX0_ok {fr lo : Nat} (hf : 1 ≤ fr) (hl : 20 ≤ lo) : ∀ n, oiX0 n = true → (Cond.methodLink RX0 n objectInit ∈ gtbl ∧ Cond.instanceMethod objectInit ∈ gtbl ∧ Cond.code objectInit ⟨#[0xb1]⟩ 1 none ∈ gtbl) ∧ 1 ≤ fr ∧ 20 ≤ lo := by
  intro n h
  have h1 := Nat.eq_of_beq_eq_true h
  subst h1
  exact ⟨⟨g_at 290 (by decide +kernel), g_at 95 (by decide +kernel), g_at 96 (by decide +kernel)⟩, hf, hl⟩
def plX1 : PLt := ([(9, 1, 2, 338), (15, 1, 3, 339), (18, 1, 4, 340), (21, 1, 5, 341), (25, 1, 6, 342), (33, 1, 0, 335), (37, 1, 1, 337), (40, 3, 1, 122), (51, 3, 0, 118)], [], [(31, 2000000000000, 334)], [])
abbrev PX1 : Pool := poolOf plX1
set_option maxRecDepth 100000 in
theorem PX1_ok : PoolOk RX1 PX1 := pool_ok (by decide +kernel) (by decide +kernel) (by decide +kernel) (by decide +kernel) cls_ok
def oiX1 : Nat → Bool := fun n => Nat.beq n 3
theorem oiX1_ok {fr lo : Nat} (hf : 1 ≤ fr) (hl : 20 ≤ lo) : ∀ n, oiX1 n = true → (Cond.methodLink RX1 n objectInit ∈ gtbl ∧ Cond.instanceMethod objectInit ∈ gtbl ∧ Cond.code objectInit ⟨#[0xb1]⟩ 1 none ∈ gtbl) ∧ 1 ≤ fr ∧ 20 ≤ lo := by
  intro n h
  have h1 := Nat.eq_of_beq_eq_true h
  subst h1
  exact ⟨⟨g_at 329 (by decide +kernel), g_at 95 (by decide +kernel), g_at 96 (by decide +kernel)⟩, hf, hl⟩
def plX2 : PLt := ([(9, 2, 0, 366), (15, 2, 1, 368)], [], [], [])
abbrev PX2 : Pool := poolOf plX2
set_option maxRecDepth 100000 in
theorem PX2_ok : PoolOk RX2 PX2 := pool_ok (by decide +kernel) (by decide +kernel) (by decide +kernel) (by decide +kernel) cls_ok
def oiX2 : Nat → Bool := fun n => Nat.beq n 3
theorem oiX2_ok {fr lo : Nat} (hf : 1 ≤ fr) (hl : 20 ≤ lo) : ∀ n, oiX2 n = true → (Cond.methodLink RX2 n objectInit ∈ gtbl ∧ Cond.instanceMethod objectInit ∈ gtbl ∧ Cond.code objectInit ⟨#[0xb1]⟩ 1 none ∈ gtbl) ∧ 1 ≤ fr ∧ 20 ≤ lo := by
  intro n h
  have h1 := Nat.eq_of_beq_eq_true h
  subst h1
  exact ⟨⟨g_at 365 (by decide +kernel), g_at 95 (by decide +kernel), g_at 96 (by decide +kernel)⟩, hf, hl⟩
def plX3 : PLt := ([(9, 3, 3, 131), (28, 3, 0, 117), (32, 3, 1, 121), (35, 3, 2, 125)], [], [], [])
abbrev PX3 : Pool := poolOf plX3
set_option maxRecDepth 100000 in
theorem PX3_ok : PoolOk RX3 PX3 := pool_ok (by decide +kernel) (by decide +kernel) (by decide +kernel) (by decide +kernel) cls_ok
def oiX3 : Nat → Bool := fun n => Nat.beq n 3
theorem oiX3_ok {fr lo : Nat} (hf : 1 ≤ fr) (hl : 20 ≤ lo) : ∀ n, oiX3 n = true → (Cond.methodLink RX3 n objectInit ∈ gtbl ∧ Cond.instanceMethod objectInit ∈ gtbl ∧ Cond.code objectInit ⟨#[0xb1]⟩ 1 none ∈ gtbl) ∧ 1 ≤ fr ∧ 20 ≤ lo := by
  intro n h
  have h1 := Nat.eq_of_beq_eq_true h
  subst h1
  exact ⟨⟨g_at 102 (by decide +kernel), g_at 95 (by decide +kernel), g_at 96 (by decide +kernel)⟩, hf, hl⟩
def plX4 : PLt := ([(9, 4, 0, 317), (15, 4, 1, 318), (19, 3, 2, 128), (42, 7, 0, 250), (46, 5, 2, 164), (55, 5, 3, 168), (62, 5, 4, 173), (69, 5, 9, 186), (76, 5, 10, 189)], [], [], [])
abbrev PX4 : Pool := poolOf plX4
set_option maxRecDepth 100000 in
theorem PX4_ok : PoolOk RX4 PX4 := pool_ok (by decide +kernel) (by decide +kernel) (by decide +kernel) (by decide +kernel) cls_ok
def oiX4 : Nat → Bool := fun n => Nat.beq n 3
theorem oiX4_ok {fr lo : Nat} (hf : 1 ≤ fr) (hl : 20 ≤ lo) : ∀ n, oiX4 n = true → (Cond.methodLink RX4 n objectInit ∈ gtbl ∧ Cond.instanceMethod objectInit ∈ gtbl ∧ Cond.code objectInit ⟨#[0xb1]⟩ 1 none ∈ gtbl) ∧ 1 ≤ fr ∧ 20 ≤ lo := by
  intro n h
  have h1 := Nat.eq_of_beq_eq_true h
  subst h1
  exact ⟨⟨g_at 316 (by decide +kernel), g_at 95 (by decide +kernel), g_at 96 (by decide +kernel)⟩, hf, hl⟩
def plX5 : PLt := ([(9, 5, 2, 162), (15, 5, 3, 165), (18, 5, 4, 170), (21, 5, 5, 174), (24, 5, 6, 176), (27, 5, 7, 179), (31, 5, 8, 182), (34, 5, 9, 184), (37, 5, 10, 187), (43, 5, 0, 158), (47, 5, 1, 160)], [(77, 2000000000, 714)], [(73, 1000000000000000, 712), (75, (-1000000000000000), 713), (78, 2, 715), (84, 1000000000, 719), (86, (-1000000000), 720)], [])
abbrev PX5 : Pool := poolOf plX5
set_option maxRecDepth 100000 in
theorem PX5_ok : PoolOk RX5 PX5 := pool_ok (by decide +kernel) (by decide +kernel) (by decide +kernel) (by decide +kernel) cls_ok
def oiX5 : Nat → Bool := fun n => Nat.beq n 3
theorem oiX5_ok {fr lo : Nat} (hf : 1 ≤ fr) (hl : 20 ≤ lo) : ∀ n, oiX5 n = true → (Cond.methodLink RX5 n objectInit ∈ gtbl ∧ Cond.instanceMethod objectInit ∈ gtbl ∧ Cond.code objectInit ⟨#[0xb1]⟩ 1 none ∈ gtbl) ∧ 1 ≤ fr ∧ 20 ≤ lo := by
  intro n h
  have h1 := Nat.eq_of_beq_eq_true h
  subst h1
  exact ⟨⟨g_at 153 (by decide +kernel), g_at 95 (by decide +kernel), g_at 96 (by decide +kernel)⟩, hf, hl⟩
def plX6 : PLt := ([(9, 6, 0, 214), (18, 6, 2, 217), (22, 6, 1, 215), (29, 6, 3, 219), (36, 6, 4, 220), (47, 5, 3, 167), (56, 5, 4, 172), (59, 5, 1, 161), (68, 5, 6, 177), (71, 6, 5, 221), (74, 5, 7, 180)], [], [], [(15, 5, 148)])
abbrev PX6 : Pool := poolOf plX6
set_option maxRecDepth 100000 in
theorem PX6_ok : PoolOk RX6 PX6 := pool_ok (by decide +kernel) (by decide +kernel) (by decide +kernel) (by decide +kernel) cls_ok
def oiX6 : Nat → Bool := fun n => Nat.beq n 3
theorem oiX6_ok {fr lo : Nat} (hf : 1 ≤ fr) (hl : 20 ≤ lo) : ∀ n, oiX6 n = true → (Cond.methodLink RX6 n objectInit ∈ gtbl ∧ Cond.instanceMethod objectInit ∈ gtbl ∧ Cond.code objectInit ⟨#[0xb1]⟩ 1 none ∈ gtbl) ∧ 1 ≤ fr ∧ 20 ≤ lo := by
  intro n h
  have h1 := Nat.eq_of_beq_eq_true h
  subst h1
  exact ⟨⟨g_at 147 (by decide +kernel), g_at 95 (by decide +kernel), g_at 96 (by decide +kernel)⟩, hf, hl⟩
def plX7 : PLt := ([(12, 7, 0, 248), (18, 7, 1, 252), (22, 7, 2, 254), (25, 7, 5, 261), (28, 7, 6, 262), (31, 7, 7, 263), (34, 7, 8, 264), (45, 7, 3, 258), (49, 7, 4, 260)], [(40, 2000000, 247), (52, 2000000000, 725), (53, 1000000000, 726), (54, (-1000000000), 727)], [], [(9, 5, 241)])
abbrev PX7 : Pool := poolOf plX7
set_option maxRecDepth 100000 in
theorem PX7_ok : PoolOk RX7 PX7 := pool_ok (by decide +kernel) (by decide +kernel) (by decide +kernel) (by decide +kernel) cls_ok
def oiX7 : Nat → Bool := fun n => Nat.beq n 3
theorem oiX7_ok {fr lo : Nat} (hf : 1 ≤ fr) (hl : 20 ≤ lo) : ∀ n, oiX7 n = true → (Cond.methodLink RX7 n objectInit ∈ gtbl ∧ Cond.instanceMethod objectInit ∈ gtbl ∧ Cond.code objectInit ⟨#[0xb1]⟩ 1 none ∈ gtbl) ∧ 1 ≤ fr ∧ 20 ≤ lo := by
  intro n h
  have h1 := Nat.eq_of_beq_eq_true h
  subst h1
  exact ⟨⟨g_at 240 (by decide +kernel), g_at 95 (by decide +kernel), g_at 96 (by decide +kernel)⟩, hf, hl⟩
def plX8 : PLt := ([(9, 8, 0, 408), (18, 8, 2, 412), (22, 8, 3, 413), (26, 8, 4, 414), (30, 8, 1, 410), (33, 3, 2, 127), (54, 9, 0, 383)], [(29, 1000000, 972)], [], [(15, 9, 406)])
abbrev PX8 : Pool := poolOf plX8
set_option maxRecDepth 100000 in
theorem PX8_ok : PoolOk RX8 PX8 := pool_ok (by decide +kernel) (by decide +kernel) (by decide +kernel) (by decide +kernel) cls_ok
def oiX8 : Nat → Bool := fun n => Nat.beq n 3
theorem oiX8_ok {fr lo : Nat} (hf : 1 ≤ fr) (hl : 20 ≤ lo) : ∀ n, oiX8 n = true → (Cond.methodLink RX8 n objectInit ∈ gtbl ∧ Cond.instanceMethod objectInit ∈ gtbl ∧ Cond.code objectInit ⟨#[0xb1]⟩ 1 none ∈ gtbl) ∧ 1 ≤ fr ∧ 20 ≤ lo := by
  intro n h
  have h1 := Nat.eq_of_beq_eq_true h
  subst h1
  exact ⟨⟨g_at 405 (by decide +kernel), g_at 95 (by decide +kernel), g_at 96 (by decide +kernel)⟩, hf, hl⟩
def plX9 : PLt := ([(9, 9, 0, 382), (15, 9, 1, 385), (18, 9, 2, 386), (21, 9, 3, 387), (24, 9, 4, 388), (35, 3, 2, 130), (59, 2, 1, 370)], [], [], [])
abbrev PX9 : Pool := poolOf plX9
set_option maxRecDepth 100000 in
theorem PX9_ok : PoolOk RX9 PX9 := pool_ok (by decide +kernel) (by decide +kernel) (by decide +kernel) (by decide +kernel) cls_ok
def oiX9 : Nat → Bool := fun n => Nat.beq n 3
theorem oiX9_ok {fr lo : Nat} (hf : 1 ≤ fr) (hl : 20 ≤ lo) : ∀ n, oiX9 n = true → (Cond.methodLink RX9 n objectInit ∈ gtbl ∧ Cond.instanceMethod objectInit ∈ gtbl ∧ Cond.code objectInit ⟨#[0xb1]⟩ 1 none ∈ gtbl) ∧ 1 ≤ fr ∧ 20 ≤ lo := by
  intro n h
  have h1 := Nat.eq_of_beq_eq_true h
  subst h1
  exact ⟨⟨g_at 381 (by decide +kernel), g_at 95 (by decide +kernel), g_at 96 (by decide +kernel)⟩, hf, hl⟩
def plX10 : PLt := ([(12, 10, 0, 426), (18, 10, 1, 427), (24, 10, 2, 428), (31, 10, 3, 429), (35, 10, 4, 430), (44, 10, 6, 432), (48, 10, 7, 433), (51, 10, 8, 434), (54, 10, 9, 435), (60, 10, 10, 436), (67, 10, 11, 437), (74, 10, 12, 438), (81, 10, 13, 439), (88, 10, 14, 440), (92, 7, 3, 257), (103, 7, 4, 259), (106, 10, 5, 431), (121, 3, 2, 126), (127, 2, 1, 369), (138, 7, 2, 255), (142, 6, 1, 216), (153, 7, 0, 251), (157, 6, 2, 218), (164, 5, 0, 159), (167, 5, 3, 169), (170, 5, 5, 175), (173, 5, 6, 178), (176, 5, 7, 181), (187, 7, 1, 253), (212, 3, 1, 124), (248, 3, 0, 120), (264, 1, 0, 336), (284, 1, 6, 343), (290, 2, 0, 367), (293, 9, 0, 384), (317, 8, 1, 411), (320, 8, 0, 409), (342, 0, 3, 297), (345, 0, 4, 299)], [(137, (-2000000), 532), (186, 2000000, 629), (193, (-2000000000), 637), (282, (-1000000000), 908), (283, 1000000000, 909), (321, 100000, 1001), (322, 1000000, 531), (337, (-1000000), 530), (354, 2000000000, 1014)], [(210, (-2000000000000), 772), (251, 2000000000000, 842), (253, (-1000000000000), 843), (255, 1000000000000, 844), (355, 4, 1015)], [(7, 3, 97), (21, 6, 142), (28, 7, 235), (39, 0, 285), (57, 4, 311), (64, 1, 324), (71, 2, 360), (78, 9, 376), (85, 8, 400)])
abbrev PX10 : Pool := poolOf plX10
set_option maxRecDepth 100000 in
theorem PX10_ok : PoolOk RX10 PX10 := pool_ok (by decide +kernel) (by decide +kernel) (by decide +kernel) (by decide +kernel) cls_ok
def oiX10 : Nat → Bool := fun n => Nat.beq n 1
theorem oiX10_ok {fr lo : Nat} (hf : 1 ≤ fr) (hl : 20 ≤ lo) : ∀ n, oiX10 n = true → (Cond.methodLink RX10 n objectInit ∈ gtbl ∧ Cond.instanceMethod objectInit ∈ gtbl ∧ Cond.code objectInit ⟨#[0xb1]⟩ 1 none ∈ gtbl) ∧ 1 ≤ fr ∧ 20 ≤ lo := by
  intro n h
  have h1 := Nat.eq_of_beq_eq_true h
  subst h1
  exact ⟨⟨g_at 94 (by decide +kernel), g_at 95 (by decide +kernel), g_at 96 (by decide +kernel)⟩, hf, hl⟩
def plX11 : PLt := ([(7, 11, 0, 1060), (13, 11, 1, 1061), (16, 11, 3, 1063), (19, 11, 4, 1064), (23, 11, 6, 1066), (26, 11, 9, 1069), (29, 11, 10, 1070), (32, 11, 11, 1071), (35, 11, 12, 1072), (38, 11, 13, 1073), (41, 11, 14, 1074), (44, 11, 15, 1075), (47, 11, 16, 1076), (50, 11, 17, 1077), (53, 11, 18, 1078), (56, 11, 20, 1080), (59, 11, 21, 1081), (62, 11, 22, 1082), (65, 11, 23, 1083), (68, 11, 26, 1086), (72, 11, 27, 1087), (75, 11, 28, 1088), (78, 11, 29, 1089), (81, 11, 31, 1091), (84, 11, 37, 1097), (87, 11, 38, 1098), (90, 11, 39, 1099), (94, 11, 40, 1100), (97, 11, 41, 1101), (100, 11, 42, 1102), (103, 11, 43, 1103), (106, 11, 44, 1104), (109, 11, 45, 1105), (116, 11, 19, 1079), (138, 11, 30, 1090), (143, 11, 2, 1062), (157, 11, 5, 1065), (162, 11, 33, 1093), (165, 11, 32, 1092), (181, 11, 8, 1068), (187, 11, 34, 1094), (203, 11, 7, 1067), (211, 11, 35, 1095), (214, 11, 36, 1096), (290, 11, 24, 1084), (293, 11, 25, 1085)], [(115, 2000000, 1054), (154, (-2000000), 1227), (176, 100000, 1268), (237, 2000000000, 1343), (277, (-2000000000), 1303)], [(122, 2000000000000, 1059), (132, 3, 1224), (134, 2, 1203), (136, 6, 1204), (141, 9, 1216), (150, (-1000000), 1225), (152, 1000000, 1226), (155, 8, 1232), (160, 255, 1233), (172, 48, 1266), (174, 57, 1267), (206, 4, 1281), (229, 2000000000, 1338), (235, 1000000000000000, 1342), (242, 1000000000, 1347), (272, 12, 1302), (284, (-2000000000000), 1368), (286, (-1000000000000), 1393), (288, 1000000000000, 1394), (303, (-1000000000), 1419), (305, 5, 1428), (307, 20, 1429), (312, (-1), 1438), (324, 100000, 1467)], [])
abbrev PX11 : Pool := poolOf plX11
set_option maxRecDepth 100000 in
theorem PX11_ok : PoolOk RX11 PX11 := pool_ok (by decide +kernel) (by decide +kernel) (by decide +kernel) (by decide +kernel) cls_ok
def oiX11 : Nat → Bool := fun n => Nat.beq n 1
theorem oiX11_ok {fr lo : Nat} (hf : 1 ≤ fr) (hl : 20 ≤ lo) : ∀ n, oiX11 n = true → (Cond.methodLink RX11 n objectInit ∈ gtbl ∧ Cond.instanceMethod objectInit ∈ gtbl ∧ Cond.code objectInit ⟨#[0xb1]⟩ 1 none ∈ gtbl) ∧ 1 ≤ fr ∧ 20 ≤ lo := by
  intro n h
  have h1 := Nat.eq_of_beq_eq_true h
  subst h1
  exact ⟨⟨g_at 1049 (by decide +kernel), g_at 95 (by decide +kernel), g_at 96 (by decide +kernel)⟩, hf, hl⟩
def plL : PLt := ([], [], [(26, 4294967295, 1496)], [(7, 10, 89), (10, 11, 1044)])
abbrev PL : Pool := poolOf plL
set_option maxRecDepth 100000 in
theorem PL_ok : PoolOk RL PL := pool_ok (by decide +kernel) (by decide +kernel) (by decide +kernel) (by decide +kernel) cls_ok
def oiN : Nat → Bool := fun _ => false
theorem oiN_ok {own : String} {fr lo : Nat} : ∀ n, oiN n = true → (Cond.methodLink own n objectInit ∈ gtbl ∧ Cond.instanceMethod objectInit ∈ gtbl ∧ Cond.code objectInit ⟨#[0xb1]⟩ 1 none ∈ gtbl) ∧ 1 ≤ fr ∧ 20 ≤ lo := fun n h => by cases h
def PN : Pool := (fun _ => none, fun _ => none, fun _ => none, fun _ => none)
