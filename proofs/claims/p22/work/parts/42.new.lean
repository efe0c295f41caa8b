/-! ===== the constructors ===== -/
theorem cix_b70 {Z : ZT} {x y r s : Int} (h : CIx 70 Z) (hy : -1 ≤ y ∧ y ≤ 12) (hr : 1 ≤ r ∧ r ≤ 36) (hs : 0 ≤ s ∧ s ≤ 1) : CI (upZ (upZ (upZ (upZ Z 70 3 x) 70 4 y) 70 0 r) 70 1 s) := by
  refine cix_ci (cix_up (cix_up (cix_up (cix_up h (fun e => absurd rfl e)) (fun e => absurd rfl e)) (fun e => absurd rfl e)) (fun e => absurd rfl e)) ?_
  intro k lo hi he
  rcases k with _ | _ | _ | _ | _ | k
  all_goals first
    | (cases he; done)
    | (cases he; first | (simpa [upZ] using hy) | (simpa [upZ] using hr) | (simpa [upZ] using hs))
theorem cix_b72 {Z : ZT} {x y r s : Int} (h : CIx 72 Z) (hy : -1 ≤ y ∧ y ≤ 12) (hr : 1 ≤ r ∧ r ≤ 36) (hs : 0 ≤ s ∧ s ≤ 1) : CI (upZ (upZ (upZ (upZ Z 72 3 x) 72 4 y) 72 0 r) 72 1 s) := by
  refine cix_ci (cix_up (cix_up (cix_up (cix_up h (fun e => absurd rfl e)) (fun e => absurd rfl e)) (fun e => absurd rfl e)) (fun e => absurd rfl e)) ?_
  intro k lo hi he
  rcases k with _ | _ | _ | _ | _ | k
  all_goals first
    | (cases he; done)
    | (cases he; first | (simpa [upZ] using hy) | (simpa [upZ] using hr) | (simpa [upZ] using hs))
theorem cix_b74 {Z : ZT} {x y r s : Int} (h : CIx 74 Z) (hy : -1 ≤ y ∧ y ≤ 12) (hr : 1 ≤ r ∧ r ≤ 36) (hs : 0 ≤ s ∧ s ≤ 1) : CI (upZ (upZ (upZ (upZ Z 74 3 x) 74 4 y) 74 0 r) 74 1 s) := by
  refine cix_ci (cix_up (cix_up (cix_up (cix_up h (fun e => absurd rfl e)) (fun e => absurd rfl e)) (fun e => absurd rfl e)) (fun e => absurd rfl e)) ?_
  intro k lo hi he
  rcases k with _ | _ | _ | _ | _ | k
  all_goals first
    | (cases he; done)
    | (cases he; first | (simpa [upZ] using hy) | (simpa [upZ] using hr) | (simpa [upZ] using hs))
theorem cix_b76 {Z : ZT} {x y r s : Int} (h : CIx 76 Z) (hy : -1 ≤ y ∧ y ≤ 12) (hr : 1 ≤ r ∧ r ≤ 36) (hs : 0 ≤ s ∧ s ≤ 1) : CI (upZ (upZ (upZ (upZ Z 76 3 x) 76 4 y) 76 0 r) 76 1 s) := by
  refine cix_ci (cix_up (cix_up (cix_up (cix_up h (fun e => absurd rfl e)) (fun e => absurd rfl e)) (fun e => absurd rfl e)) (fun e => absurd rfl e)) ?_
  intro k lo hi he
  rcases k with _ | _ | _ | _ | _ | k
  all_goals first
    | (cases he; done)
    | (cases he; first | (simpa [upZ] using hy) | (simpa [upZ] using hr) | (simpa [upZ] using hs))
theorem cix_m {Z : ZT} (h : CIx 100 Z) (h0 : ∀ k, Z 100 k = 0) : CI (upZ (upZ Z 100 0 3) 100 1 3) := by
  refine cix_ci (cix_up (cix_up h (fun e => absurd rfl e)) (fun e => absurd rfl e)) ?_
  intro k lo hi he
  rcases k with _ | _ | _ | _ | _ | _ | _ | _ | _ | _ | _ | _ | _ | _ | _ | _ | _ | _ | _ | _ | _ | _ | _ | _ | _ | _ | _ | _ | _ | _ | _ | _ | _ | _ | _ | _ | _ | k
  all_goals first
    | (cases he; done)
    | (cases he; simp [upZ, h0])
theorem kb0 {i : Nat} {lo hi : Int} (h : kbn i = some (lo, hi)) : lo ≤ 0 ∧ 0 ≤ hi := by
  unfold kbn at h
  by_cases h0 : i < 1
  · rw [if_pos h0] at h
    cases h
    decide
  rw [if_neg h0] at h
  by_cases h1 : i < 2
  · rw [if_pos h1] at h
    cases h
    decide
  rw [if_neg h1] at h
  by_cases h2 : i < 3
  · rw [if_pos h2] at h
    cases h
    decide
  rw [if_neg h2] at h
  by_cases h3 : i < 7
  · rw [if_pos h3] at h
    cases h
  rw [if_neg h3] at h
  by_cases h4 : i < 11
  · rw [if_pos h4] at h
    cases h
    decide
  rw [if_neg h4] at h
  by_cases h5 : i < 15
  · rw [if_pos h5] at h
    cases h
    decide
  rw [if_neg h5] at h
  by_cases h6 : i < 19
  · rw [if_pos h6] at h
    cases h
    decide
  rw [if_neg h6] at h
  by_cases h7 : i < 23
  · rw [if_pos h7] at h
    cases h
    decide
  rw [if_neg h7] at h
  by_cases h8 : i < 27
  · rw [if_pos h8] at h
    cases h
  rw [if_neg h8] at h
  by_cases h9 : i < 31
  · rw [if_pos h9] at h
    cases h
    decide
  rw [if_neg h9] at h
  by_cases h10 : i < 111
  · rw [if_pos h10] at h
    cases h
  rw [if_neg h10] at h
  by_cases h11 : i < 191
  · rw [if_pos h11] at h
    cases h
    decide
  rw [if_neg h11] at h
  by_cases h12 : i < 271
  · rw [if_pos h12] at h
    cases h
    decide
  rw [if_neg h12] at h
  by_cases h13 : i < 415
  · rw [if_pos h13] at h
    cases h
  rw [if_neg h13] at h
  by_cases h14 : i < 427
  · rw [if_pos h14] at h
    cases h
    decide
  rw [if_neg h14] at h
  by_cases h15 : i < 439
  · rw [if_pos h15] at h
    cases h
    decide
  rw [if_neg h15] at h
  by_cases h16 : i < 451
  · rw [if_pos h16] at h
    cases h
    decide
  rw [if_neg h16] at h
  by_cases h17 : i < 463
  · rw [if_pos h17] at h
    cases h
  rw [if_neg h17] at h
  cases h
/-- what holds between calls -/
def LI (Z : ZT) : Prop := CI Z ∧ E1 Z ∧ EB Z ∧ KB Z ∧ KE Z
theorem LI_init {Zc Z' : ZT} (hk : kp [112, 117, 120, 20100] Zc Z') (hI : CI Z') (h4 : ∀ l : Nat, l < 4 → Zc 104 l = -4) (h128 : ∀ k, Zc 128 k = 0) (h121 : ∀ k, Zc 121 k = 0) (h30 : Zc 100 30 = 0) : LI Z' := by
  have e4 : Z' 104 = Zc 104 := kp_av hk (by rfl) (by decide)
  have e128 : Z' 128 = Zc 128 := kp_av hk (by rfl) (by decide)
  have e121 : Z' 121 = Zc 121 := kp_av hk (by rfl) (by decide)
  have e30 : Z' 100 30 = Zc 100 30 := kpF 100 30 hk (by rfl)
  refine ⟨hI, fun l hl h0 => ?_, fun k hk => ?_, fun k i h2 h3 lo hi he => ?_, fun k h0 h1 => ?_⟩
  · rw [e4, h4 l hl] at h0
    omega
  · rw [e128, h128]
    omega
  · rw [e121, h121]
    exact kb0 he
  · rw [e30, h30] at h1
    omega
