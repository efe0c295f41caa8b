/-! ===== the JDK's methods ===== -/
def s_min : Sp := fsp 2 99 (fun as => match as with
    | [.inl _, .inl b] => True
    | _ => False) (fun as => match as with
    | [.inl a, .inl b] => vi (if a ≤ b then a else b)
    | _ => vi 0)
def s_max : Sp := fsp 2 99 (fun as => match as with
    | [.inl _, .inl b] => True
    | _ => False) (fun as => match as with
    | [.inl a, .inl b] => vi (if a < b then b else a)
    | _ => vi 0)
def s_absI : Sp := fsp 1 99 (fun as => match as with
    | [.inl _] => True
    | _ => False) (fun as => match as with
    | [.inl a] => vi (if a < 0 then w32 (-a) else a)
    | _ => vi 0)
def s_absL : Sp := fsp 1 99 (fun as => match as with
    | [.inr (.inl _)] => True
    | _ => False) (fun as => match as with
    | [.inr (.inl a)] => vl (if a < 0 then w64 (-a) else a)
    | _ => vi 0)
set_option maxRecDepth 100000 in
theorem c_J9_min {l : Launch} {D : va_G} {cA : Nat → ClassId} : PM l D cA yJ9_min_7cf53 prog_15_method_69_code 2 (some .int) 0 0 s_min := by
  refine of_J9_min_7cf53 (fun as σ hwf hao hpre => ?_)
  rcases as with _ | ⟨a | x | x, _ | ⟨b | x | x, _ | ⟨v, t⟩⟩⟩ <;> first | exact (hpre : False).elim | skip
  refine ⟨Nat.le_of_ble_eq_true rfl, fun G hG => wp_run hG [] 20 _ _ _ _ ?_⟩
  repeat' (first | with_reducible rfl | refine And.intro ?_ ?_ | intro _)
  all_goals (first | rfl | skip)
  all_goals (show some _ = some _; congr 1; try dsimp only)
  all_goals (rename_i h; simp only [cmpI] at h)
  · rw [if_neg (by omega)]
  · rw [if_pos (by omega)]
set_option maxRecDepth 100000 in
theorem c_J9_max {l : Launch} {D : va_G} {cA : Nat → ClassId} : PM l D cA yJ9_max_7cf53 prog_15_method_65_code 2 (some .int) 0 0 s_max := by
  refine of_J9_max_7cf53 (fun as σ hwf hao hpre => ?_)
  rcases as with _ | ⟨a | x | x, _ | ⟨b | x | x, _ | ⟨v, t⟩⟩⟩ <;> first | exact (hpre : False).elim | skip
  refine ⟨Nat.le_of_ble_eq_true rfl, fun G hG => wp_run hG [] 20 _ _ _ _ ?_⟩
  repeat' (first | with_reducible rfl | refine And.intro ?_ ?_ | intro _)
  all_goals (first | rfl | skip)
  all_goals (show some _ = some _; congr 1; try dsimp only)
  all_goals (rename_i h; simp only [cmpI] at h)
  · rw [if_pos h]
  · rw [if_neg h]
set_option maxRecDepth 100000 in
theorem c_J9_absI {l : Launch} {D : va_G} {cA : Nat → ClassId} : PM l D cA yJ9_abs_0f7a4 prog_15_method_59_code 1 (some .int) 0 0 s_absI := by
  refine of_J9_abs_0f7a4 (fun as σ hwf hao hpre => ?_)
  rcases as with _ | ⟨a | x | x, _ | ⟨v, t⟩⟩ <;> first | exact (hpre : False).elim | skip
  refine ⟨Nat.le_of_ble_eq_true rfl, fun G hG => wp_run hG [] 20 _ _ _ _ ?_⟩
  repeat' (first | with_reducible rfl | refine And.intro ?_ ?_ | intro _)
  all_goals (first | rfl | skip)
  all_goals (show some _ = some _; congr 1; try dsimp only)
  all_goals (rename_i h; simp only [cmpI] at h)
  · rw [if_neg (by omega)]
  · rw [if_pos (by omega)]
set_option maxRecDepth 100000 in
theorem c_J9_absL {l : Launch} {D : va_G} {cA : Nat → ClassId} : PM l D cA yJ9_abs_067f4 prog_15_method_61_code 2 (some .long) 0 0 s_absL := by
  refine of_J9_abs_067f4 (fun as σ hwf hao hpre => ?_)
  rcases as with _ | ⟨x | a | x, _ | ⟨v, t⟩⟩ <;> first | exact (hpre : False).elim | skip
  refine ⟨Nat.le_of_ble_eq_true rfl, fun G hG => wp_run hG [] 20 _ _ _ _ ?_⟩
  repeat' (first | with_reducible rfl | refine And.intro ?_ ?_ | intro _)
  all_goals (first | rfl | skip)
  all_goals (show some _ = some _; congr 1; try dsimp only)
  all_goals (rename_i h; simp only [cmpI] at h)
  all_goals (have h2 : cmp3 a (0, 1).1 = cmp3 a 0 := rfl)
  · rw [if_neg]
    intro q
    unfold cmp3 at h
    skip
    split at h <;> (try split at h) <;> omega
  · rw [if_pos]
    unfold cmp3 at h
    split at h <;> (try split at h) <;> omega
def s_fdI : Sp := fsp 2 99 (fun as => match as with
    | [.inl _, .inl b] => 0 < b
    | _ => False) (fun as => match as with
    | [.inl a, .inl b] => vi (a / b)
    | _ => vi 0)
def s_fdL : Sp := fsp 2 99 (fun as => match as with
    | [.inr (.inl _), .inr (.inl b)] => 0 < b
    | _ => False) (fun as => match as with
    | [.inr (.inl a), .inr (.inl b)] => vl (a / b)
    | _ => vi 0)
theorem tdiv_le {a b : Int} (h0 : 0 < b) : (a ≥ 0 → 0 ≤ Int.tdiv a b ∧ Int.tdiv a b ≤ a) ∧ (a < 0 → a ≤ Int.tdiv a b ∧ Int.tdiv a b ≤ 0) := by
  refine ⟨fun h => ?_, fun h => ?_⟩
  · rw [Int.tdiv_eq_ediv_of_nonneg h]
    exact ⟨Int.ediv_nonneg h (by omega), Int.ediv_le_self _ h⟩
  · have e : Int.tdiv a b = -((-a) / b) := by
      rw [← Int.tdiv_eq_ediv_of_nonneg (by omega), Int.neg_tdiv, Int.neg_neg]
    have h1 := Int.ediv_nonneg (a := -a) (b := b) (by omega) (by omega)
    have h2 := Int.ediv_le_self b (a := -a) (by omega)
    rw [e]; omega
/-- what floorDiv reckons, for a divisor above 0 -/
theorem fd_ok {a b : Int} (h0 : 0 < b) : (0 ≤ a → Int.tdiv a b = a / b) ∧ (a < 0 → Int.tdiv a b * b = a → Int.tdiv a b = a / b) ∧ (a < 0 → Int.tdiv a b * b ≠ a → Int.tdiv a b - 1 = a / b) := by
  refine ⟨fun h => Int.tdiv_eq_ediv_of_nonneg h, fun h he => ?_, fun h he => ?_⟩
  · have := Int.mul_ediv_cancel (Int.tdiv a b) (b := b) (by omega)
    rw [he] at this
    exact this.symm
  · have e : Int.tdiv a b = -((-a) / b) := by
      rw [← Int.tdiv_eq_ediv_of_nonneg (by omega), Int.neg_tdiv, Int.neg_neg]
    rw [e] at he ⊢
    have h1 := Int.mul_ediv_add_emod (-a) b
    have h2 := Int.emod_nonneg (-a) (b := b) (by omega)
    have h3 := Int.emod_lt_of_pos (-a) h0
    generalize (-a) / b = q at *
    have h4 : (-a) % b ≠ 0 := fun z => he (by rw [z] at h1; rw [Int.mul_comm] at h1; rw [Int.neg_mul]; omega)
    have h5 : a / b = -q - 1 := by
      rw [show a = (b - (-a) % b) + b * (-q - 1) from by rw [Int.mul_sub, Int.mul_neg]; omega]
      rw [Int.add_mul_ediv_left _ _ (by omega), Int.ediv_eq_zero_of_lt (by omega) (by omega)]
      omega
    omega
theorem tm_le {a b : Int} (h0 : 0 < b) (h : a < 0) : a ≤ Int.tdiv a b * b ∧ Int.tdiv a b * b ≤ 0 := by
  have e : Int.tdiv a b = -((-a) / b) := by
    rw [← Int.tdiv_eq_ediv_of_nonneg (by omega), Int.neg_tdiv, Int.neg_neg]
  have h1 := Int.ediv_mul_le (-a) (b := b) (by omega)
  have h2 := Int.mul_nonneg (Int.ediv_nonneg (a := -a) (b := b) (by omega) (by omega)) (show 0 ≤ b by omega)
  rw [e, Int.neg_mul]
  omega
theorem fd_ge {a b : Int} (h0 : 0 < b) (h : a < 0) : a ≤ a / b := by
  rcases Int.lt_or_le (Int.tdiv a b * b) a with q | q
  · have := (tm_le h0 h).1; omega
  · by_cases z : Int.tdiv a b * b = a
    · have := (fd_ok (a := a) h0).2.1 h z
      have := (tdiv_le (a := a) h0).2 h
      omega
    · refine (Int.le_ediv_iff_mul_le h0).mpr ?_
      have h1 := Int.mul_nonneg (show 0 ≤ -a by omega) (show 0 ≤ b - 1 by omega)
      rw [Int.neg_mul, Int.mul_sub, Int.mul_one] at h1
      omega
set_option maxRecDepth 100000 in
theorem c_J9_fdI {l : Launch} {D : va_G} {cA : Nat → ClassId} : PM l D cA yJ9_floorDiv_7cf53 prog_15_method_47_code 3 (some .int) 0 0 s_fdI := by
  refine of_J9_floorDiv_7cf53 (fun as σ hwf hao hpre => ?_)
  rcases as with _ | ⟨a | x | x, _ | ⟨b | x | x, _ | ⟨v, t⟩⟩⟩ <;> first | exact (hpre : False).elim | skip
  have h0 : 0 < b := hpre
  have ha : okI a := hd1 hao
  have hb : okI b := hd1 (tl1 hao)
  have h1 := fd_ok (a := a) h0
  have h2 := tdiv_le (a := a) h0
  have h3 := xor32_neg ha (b := b) (by omega) hb.2
  have hal := ha.1
  have hau := ha.2
  have ew : w32 (Int.tdiv a b) = Int.tdiv a b := by
    rcases Int.lt_or_le a 0 with q | q
    · exact w32_id (by have := h2.2 q; omega) (by have := h2.2 q; omega)
    · exact w32_id (by have := h2.1 q; omega) (by have := h2.1 q; omega)
  refine ⟨Nat.le_of_ble_eq_true rfl, fun G hG => wp_run hG [] 20 _ _ _ _ ?_⟩
  repeat' (first | with_reducible rfl | (show _ ≠ _; omega) | refine And.intro ?_ ?_ | intro _)
  all_goals (first | rfl | skip)
  all_goals (show some _ = some _; congr 1; try dsimp only)
  all_goals (try simp only [cmp3_c] at *)
  all_goals (simp only [cmpI, ew] at *)
  · rename_i q
    have q2 : ¬ a < 0 := fun z => by have q3 := h3.mpr z; exact absurd q3 (Int.not_lt.mpr q)
    rw [h1.1 (by omega)]
  · rename_i q e
    have q2 : a < 0 := h3.mp (Int.not_le.mp q)
    have hm := tm_le h0 q2
    rw [w32_id (by omega) (by omega)] at e
    rw [h1.2.1 q2 e]
  · rename_i q e
    have q2 : a < 0 := h3.mp (Int.not_le.mp q)
    have hm := tm_le h0 q2
    have hg := fd_ge h0 q2
    rw [w32_id (by omega) (by omega)] at e
    have e2 := h1.2.2 q2 e
    have hd := h2.2 q2
    rw [w32_id (by omega) (by omega), e2]
set_option maxRecDepth 100000 in
theorem c_J9_fdL {l : Launch} {D : va_G} {cA : Nat → ClassId} : PM l D cA yJ9_floorDiv_f86c9 prog_15_method_49_code 6 (some .long) 0 0 s_fdL := by
  refine of_J9_floorDiv_f86c9 (fun as σ hwf hao hpre => ?_)
  rcases as with _ | ⟨x | a | x, _ | ⟨x | b | x, _ | ⟨v, t⟩⟩⟩ <;> first | exact (hpre : False).elim | skip
  have h0 : 0 < b := hpre
  have ha : okL a := hd1 hao
  have hb : okL b := hd1 (tl1 hao)
  have h1 := fd_ok (a := a) h0
  have h2 := tdiv_le (a := a) h0
  have h3 := xor64_neg ha hb (by omega)
  have hal := ha.1
  have hau := ha.2
  have ew : w64 (Int.tdiv a b) = Int.tdiv a b := by
    rcases Int.lt_or_le a 0 with q | q
    · exact w64_id (by have := h2.2 q; omega) (by have := h2.2 q; omega)
    · exact w64_id (by have := h2.1 q; omega) (by have := h2.1 q; omega)
  refine ⟨Nat.le_of_ble_eq_true rfl, fun G hG => wp_run hG [] 20 _ _ _ _ ?_⟩
  repeat' (first | with_reducible rfl | (show _ ≠ _; omega) | refine And.intro ?_ ?_ | intro _)
  all_goals (first | rfl | skip)
  all_goals (show some _ = some _; congr 1; try dsimp only)
  all_goals (try simp only [cmp3_c] at *)
  all_goals (simp only [cmpI, ew] at *)
  · rename_i q
    have q2 : ¬ a < 0 := fun z => by have q3 := h3.mpr z; exact absurd q3 (Int.not_lt.mpr q)
    rw [h1.1 (by omega)]
  · rename_i q e
    have q2 : a < 0 := h3.mp (Int.not_le.mp q)
    have hm := tm_le h0 q2
    rw [w64_id (by omega) (by omega)] at e
    rw [h1.2.1 q2 e]
  · rename_i q e
    have q2 : a < 0 := h3.mp (Int.not_le.mp q)
    have hm := tm_le h0 q2
    have hg := fd_ge h0 q2
    rw [w64_id (by omega) (by omega)] at e
    have e2 := h1.2.2 q2 e
    have hd := h2.2 q2
    rw [w64_id (by omega) (by omega), e2]
