/-! ===== the grid ===== -/
def bes (Z : ZT) (g : Nat) (c s : Int) : Int := if 0 ≤ w32 (w32 (c * 5) + s) ∧ w32 (w32 (c * 5) + s) < 180 then Z (g + 1) (w32 (w32 (c * 5) + s)).toNat else -1
def s_beside : Sp := rsp 3 3 (fun R _ => R = R0) (fun as _ => ∃ g c s, as = [vr g, vi c, vi s] ∧ isGrid g) (fun as Z v => ∀ g c s, as = [vr g, vi c, vi s] → v = vi (bes Z g c s))
set_option maxRecDepth 100000 in
theorem c_X3_beside {l : Launch} {D : va_G} {cA : Nat → ClassId} : PM l D cA yX3_beside cX3_beside 4 (some .int) 0 0 s_beside := by
  refine of_X3_beside (fun as σ hwf hao hpre => ?_)
  obtain ⟨n, Z, R⟩ := σ
  obtain ⟨hR, g, c, s, rfl, hg⟩ := hpre
  obtain rfl : R = R0 := hR
  refine ⟨Nat.le_of_ble_eq_true rfl, fun G hG => wp_run hG [] 30 _ _ _ _ ?_⟩
  rcases hg with rfl | rfl
  all_goals repeat' (first | refine And.intro ?_ ?_ | with_reducible rfl | intro _)
  all_goals (first | rfl | skip)
  all_goals (simp only [cmpI] at *)
  all_goals (first | omega | refine ⟨_, rfl, fun a' b' c' e => ?_⟩ | skip)
  all_goals (try cases e)
  all_goals (try unfold bes)
  all_goals trace_state
  all_goals sorry
