/-! ===== weak contracts: leaves ===== -/
def s_X9_lastMinute : Sp := wspU 3 9 (fun as Z => match as with
    | [.inr (.inr a0), .inr (.inr a1), .inl a2] => ((a0 = 88 ∨ a0 = 95)) ∧ ((a1 = 2)) ∧ (True) ∧ True
    | _ => False) (fun as => match as with
    | [.inr (.inr a0), .inr (.inr a1), .inl a2] => []
    | _ => [])
set_option maxRecDepth 100000 in
set_option maxHeartbeats 40000000 in
theorem c_X9_lastMinute {l : Launch} {D : va_G} {cA : Nat → ClassId} : PM l D cA yX9_lastMinute cX9_lastMinute 5 (some .int) 1 23 s_X9_lastMinute := by
  refine of_X9_lastMinute (c_X9_ended) ⟨rfl, rfl⟩ (c_J9_max) ⟨rfl, rfl⟩ (fun as σ hwf hao hpre => ?_)
  obtain ⟨n, Z, R⟩ := σ
  obtain ⟨hR, hI, hpre⟩ := hpre
  obtain rfl : R = R0 := hR
  rcases as with _ | ⟨x | x | a0, _ | ⟨x | x | a1, _ | ⟨a2 | x | x, _ | ⟨v, t⟩⟩⟩⟩ <;> first | exact (hpre : False).elim | skip
  obtain ⟨k2l, k2u⟩ : okI a2 := hao (vi a2) (by simp)
  obtain ⟨h0, h1, h2, -⟩ := hpre
  have hk : keeps ([]) Z Z := keeps_refl
  refine ⟨Nat.le_of_ble_eq_true rfl, fun G hG => ?_⟩
  clear hao hwf
  rcases h0 with rfl | rfl
  · obtain rfl := h1
    have loop : ∀ fuel : Nat, (∀ (Z1 : ZT) (v3 : Int) (v4 : Int), CI Z1 → keeps ([]) Z Z1 → ((0 ≤ v4 ∧ v4 ≤ 36) ∧ True) → 37 - v4 ≤ (fuel : Int) → G 5 [(0, vr 88), (1, vr 2), (2, vi a2), (3, vi v3), (4, vi v4)] [] (n, Z1, R0)) := by
      intro fuel
      induction fuel with
      | zero => exact (by intros; omega)
      | succ fuel ih =>
        have ih5 := ih
        · intro Z1 v3 v4 hI1 hk1 hv hm
          obtain ⟨w0, -⟩ := hv
          clear hk hI
          refine wq_run hG n R0 [5] 900 _ _ _ _ ?_
          repeat' (first
              | with_reducible rfl
              | refine And.intro ?_ ?_
              | with_reducible exact True.intro
              | ((with_reducible show _ = true); rfl)
              | ((with_reducible show recvG _ _); rfl)
              | ((with_reducible show CI _); first | with_reducible assumption | assumption)
              | (fail_if_success (first | (with_reducible show _ ≤ _) | (with_reducible show _ = _) | (with_reducible show _ ∨ _) | (with_reducible show _ < _) | (with_reducible show G _ _ _ _))
                 first
                 | show G _ _ _ _
                 | (intro (Z2 : ZT) hZ2; have hZ3 : Z' = Z2 := hZ2.symm; subst hZ3)
                 | (intro (Z2 : ZT) hZ2; have hZ3 : Z1 = Z2 := hZ2.symm; subst hZ3)
                 | (intro (Z2 : ZT) hZ2; have hZ3 : Z = Z2 := hZ2.symm; subst hZ3)
                 | (refine ld_bnd (by first | with_reducible assumption | assumption) rfl ?_; intro _ _ _ _)
                 | (refine st_bnd (by first | with_reducible assumption | assumption) (by first | with_reducible assumption | assumption) (by decide) (fun lo hi hb => by first | (cases hb; done) | (cases hb; constructor <;> (first | omega | (simp (disch := omega) only [w32_id, w64_id]; omega) | (simp (disch := omega) only [w32_id, w64_id] at *; omega) | (simp only [w32, w64] at *; omega) | exact (and32_le (by omega) (by omega)).1 | exact (and32_le (by omega) (by omega)).2 | exact (mulR (by omega) (by omega) (by omega) (by omega)).1 | exact (mulR (by omega) (by omega) (by omega) (by omega)).2 | (subst_vars; simp [upZ] at *; omega) | (subst_vars; simp [upZ] at *; simp only [w32, w64] at *; omega)))) ?_; intro Z' _ _ _)
                 | (intro (r : Option PV) σ' hq
                    first
                    | (obtain ⟨rfl, rfl⟩ := hq)
                    | (obtain ⟨Z', x, rfl, rfl, hI2, hk2, hl2, hu2⟩ := hq; have hk3 := keeps_to (by first | with_reducible assumption | assumption) (by rfl) hk2; clear hk2)
                    | (obtain ⟨Z', x, rfl, rfl, hI2, hk2⟩ := hq; have hk3 := keeps_to (by first | with_reducible assumption | assumption) (by rfl) hk2; clear hk2)
                    | (rcases hq with ⟨Z', rfl, rfl, hI2, hk2⟩ | ⟨Z', rfl, rfl, hI2, hk2⟩ <;> (have hk3 := keeps_to (by first | with_reducible assumption | assumption) (by rfl) hk2; clear hk2))
                    | (obtain ⟨Z', rfl, rfl, hI2, hk2⟩ := hq; have hk3 := keeps_to (by first | with_reducible assumption | assumption) (by rfl) hk2; clear hk2))
                 | (intro hc; (try simp only [cmp3_c] at hc); simp only [cmpI] at hc)
                 | (show CI _; assumption)
                 | intro (_ : Int)
                 | intro (Z' : ZT)
                 | intro (_ : CI _)
                 | intro (_ : keeps _ _ _)
                 | intro (_ : _ ≤ _)
                 | intro (_ : _ = _)
                 | intro (_ : _ < _)
                 | intro (_ : _ ∨ _)))
          all_goals first
            | with_reducible rfl
            | ((with_reducible show _ = _); rfl)
            | ((with_reducible show recvG _ _); rfl)
            | with_reducible exact trivial
            | ((fail_if_success (first | (with_reducible show _ ≤ _) | (with_reducible show _ = _) | (with_reducible show _ ∨ _) | (with_reducible show _ < _) | (with_reducible show G _ _ _ _))); (refine Exists.intro _ (And.intro rfl (And.intro rfl (And.intro ?_ ?_)))) <;> with_reducible assumption)
            | ((with_reducible show G 5 _ _ _); exact hG.2 5 _ [(0, vr 88), (1, vr 2), (2, vi a2), (3, vi _), (4, vi _)] _ _ rfl (ih5 _ _ _ (by assumption) (by assumption) (by refine ⟨by first | omega | (refine ⟨?_, ?_⟩ <;> (first | omega | (simp (disch := omega) only [w32_id, w64_id]; omega) | (simp (disch := omega) only [w32_id, w64_id] at *; omega) | (simp only [w32, w64] at *; omega) | exact (and32_le (by omega) (by omega)).1 | exact (and32_le (by omega) (by omega)).2 | exact (mulR (by omega) (by omega) (by omega) (by omega)).1 | exact (mulR (by omega) (by omega) (by omega) (by omega)).2 | (subst_vars; simp [upZ] at *; omega) | (subst_vars; simp [upZ] at *; simp only [w32, w64] at *; omega))) | (first | omega | (simp (disch := omega) only [w32_id, w64_id]; omega) | (simp (disch := omega) only [w32_id, w64_id] at *; omega) | (simp only [w32, w64] at *; omega) | exact (and32_le (by omega) (by omega)).1 | exact (and32_le (by omega) (by omega)).2 | exact (mulR (by omega) (by omega) (by omega) (by omega)).1 | exact (mulR (by omega) (by omega) (by omega) (by omega)).2 | (subst_vars; simp [upZ] at *; omega) | (subst_vars; simp [upZ] at *; simp only [w32, w64] at *; omega)), trivial⟩) (by first | omega | (simp (disch := omega) only [w32_id, w64_id]; omega) | (simp (disch := omega) only [w32_id, w64_id] at *; omega) | (simp only [w32, w64] at *; omega) | exact (and32_le (by omega) (by omega)).1 | exact (and32_le (by omega) (by omega)).2 | exact (mulR (by omega) (by omega) (by omega) (by omega)).1 | exact (mulR (by omega) (by omega) (by omega) (by omega)).2 | (subst_vars; simp [upZ] at *; omega) | (subst_vars; simp [upZ] at *; simp only [w32, w64] at *; omega))))
            | ((fail_if_success (first | (with_reducible show _ ≤ _) | (with_reducible show _ = _) | (with_reducible show _ ∨ _) | (with_reducible show _ < _) | (with_reducible show G _ _ _ _))); exact Exists.intro _ (Exists.intro _ ⟨rfl, rfl, by assumption, by assumption, by (first | omega | (simp (disch := omega) only [w32_id, w64_id]; omega) | (simp (disch := omega) only [w32_id, w64_id] at *; omega) | (simp only [w32, w64] at *; omega) | exact (and32_le (by omega) (by omega)).1 | exact (and32_le (by omega) (by omega)).2 | exact (mulR (by omega) (by omega) (by omega) (by omega)).1 | exact (mulR (by omega) (by omega) (by omega) (by omega)).2 | (subst_vars; simp [upZ] at *; omega) | (subst_vars; simp [upZ] at *; simp only [w32, w64] at *; omega)), by (first | omega | (simp (disch := omega) only [w32_id, w64_id]; omega) | (simp (disch := omega) only [w32_id, w64_id] at *; omega) | (simp only [w32, w64] at *; omega) | exact (and32_le (by omega) (by omega)).1 | exact (and32_le (by omega) (by omega)).2 | exact (mulR (by omega) (by omega) (by omega) (by omega)).1 | exact (mulR (by omega) (by omega) (by omega) (by omega)).2 | (subst_vars; simp [upZ] at *; omega) | (subst_vars; simp [upZ] at *; simp only [w32, w64] at *; omega))⟩))
            | ((fail_if_success (first | (with_reducible show _ ≤ _) | (with_reducible show _ = _) | (with_reducible show _ ∨ _) | (with_reducible show _ < _) | (with_reducible show G _ _ _ _))); exact Exists.intro _ (Exists.intro _ ⟨rfl, rfl, by assumption, by assumption⟩))
            | ((fail_if_success (first | (with_reducible show _ ≤ _) | (with_reducible show _ = _) | (with_reducible show _ ∨ _) | (with_reducible show _ < _) | (with_reducible show G _ _ _ _))); exact Exists.intro _ ⟨rfl, rfl, by assumption, by assumption⟩)
            | ((fail_if_success (first | (with_reducible show _ ≤ _) | (with_reducible show _ = _) | (with_reducible show _ ∨ _) | (with_reducible show _ < _) | (with_reducible show G _ _ _ _))); exact Or.inl (Exists.intro _ ⟨rfl, rfl, by assumption, by assumption⟩))
            | ((fail_if_success (first | (with_reducible show _ ≤ _) | (with_reducible show _ = _) | (with_reducible show _ ∨ _) | (with_reducible show _ < _) | (with_reducible show G _ _ _ _))); exact Or.inr (Exists.intro _ ⟨rfl, rfl, by assumption, by assumption⟩))
            | omega
            | rfl
            | exact trivial
            | decide
            | (show (0 : Int) < _; omega)
            | (show (0 : Int) < _; simp only [w64] at *; omega)
            | (simp only [w32, w64] at *; omega)
            | (first | omega | (simp (disch := omega) only [w32_id, w64_id]; omega) | (simp (disch := omega) only [w32_id, w64_id] at *; omega) | (simp only [w32, w64] at *; omega) | exact (and32_le (by omega) (by omega)).1 | exact (and32_le (by omega) (by omega)).2 | exact (mulR (by omega) (by omega) (by omega) (by omega)).1 | exact (mulR (by omega) (by omega) (by omega) (by omega)).2 | (subst_vars; simp [upZ] at *; omega) | (subst_vars; simp [upZ] at *; simp only [w32, w64] at *; omega))
            | skip
    refine wq_run hG n R0 [5] 900 _ _ _ _ ?_
    repeat' (first
        | with_reducible rfl
        | refine And.intro ?_ ?_
        | with_reducible exact True.intro
        | ((with_reducible show _ = true); rfl)
        | ((with_reducible show recvG _ _); rfl)
        | ((with_reducible show CI _); first | with_reducible assumption | assumption)
        | (fail_if_success (first | (with_reducible show _ ≤ _) | (with_reducible show _ = _) | (with_reducible show _ ∨ _) | (with_reducible show _ < _) | (with_reducible show G _ _ _ _))
           first
           | show G _ _ _ _
           | (intro (Z2 : ZT) hZ2; have hZ3 : Z' = Z2 := hZ2.symm; subst hZ3)
           | (intro (Z2 : ZT) hZ2; have hZ3 : Z1 = Z2 := hZ2.symm; subst hZ3)
           | (intro (Z2 : ZT) hZ2; have hZ3 : Z = Z2 := hZ2.symm; subst hZ3)
           | (refine ld_bnd (by first | with_reducible assumption | assumption) rfl ?_; intro _ _ _ _)
           | (refine st_bnd (by first | with_reducible assumption | assumption) (by first | with_reducible assumption | assumption) (by decide) (fun lo hi hb => by first | (cases hb; done) | (cases hb; constructor <;> (first | omega | (simp (disch := omega) only [w32_id, w64_id]; omega) | (simp (disch := omega) only [w32_id, w64_id] at *; omega) | (simp only [w32, w64] at *; omega) | exact (and32_le (by omega) (by omega)).1 | exact (and32_le (by omega) (by omega)).2 | exact (mulR (by omega) (by omega) (by omega) (by omega)).1 | exact (mulR (by omega) (by omega) (by omega) (by omega)).2 | (subst_vars; simp [upZ] at *; omega) | (subst_vars; simp [upZ] at *; simp only [w32, w64] at *; omega)))) ?_; intro Z' _ _ _)
           | (intro (r : Option PV) σ' hq
              first
              | (obtain ⟨rfl, rfl⟩ := hq)
              | (obtain ⟨Z', x, rfl, rfl, hI2, hk2, hl2, hu2⟩ := hq; have hk3 := keeps_to (by first | with_reducible assumption | assumption) (by rfl) hk2; clear hk2)
              | (obtain ⟨Z', x, rfl, rfl, hI2, hk2⟩ := hq; have hk3 := keeps_to (by first | with_reducible assumption | assumption) (by rfl) hk2; clear hk2)
              | (rcases hq with ⟨Z', rfl, rfl, hI2, hk2⟩ | ⟨Z', rfl, rfl, hI2, hk2⟩ <;> (have hk3 := keeps_to (by first | with_reducible assumption | assumption) (by rfl) hk2; clear hk2))
              | (obtain ⟨Z', rfl, rfl, hI2, hk2⟩ := hq; have hk3 := keeps_to (by first | with_reducible assumption | assumption) (by rfl) hk2; clear hk2))
           | (intro hc; (try simp only [cmp3_c] at hc); simp only [cmpI] at hc)
           | (show CI _; assumption)
           | intro (_ : Int)
           | intro (Z' : ZT)
           | intro (_ : CI _)
           | intro (_ : keeps _ _ _)
           | intro (_ : _ ≤ _)
           | intro (_ : _ = _)
           | intro (_ : _ < _)
           | intro (_ : _ ∨ _)))
    all_goals (have lp5 := loop 1000000)
    all_goals first
      | with_reducible rfl
      | ((with_reducible show _ = _); rfl)
      | ((with_reducible show recvG _ _); rfl)
      | with_reducible exact trivial
      | ((fail_if_success (first | (with_reducible show _ ≤ _) | (with_reducible show _ = _) | (with_reducible show _ ∨ _) | (with_reducible show _ < _) | (with_reducible show G _ _ _ _))); (refine Exists.intro _ (And.intro rfl (And.intro rfl (And.intro ?_ ?_)))) <;> with_reducible assumption)
      | ((with_reducible show G 5 _ _ _); exact hG.2 5 _ [(0, vr 88), (1, vr 2), (2, vi a2), (3, vi _), (4, vi _)] _ _ rfl (lp5 _ _ _ (by assumption) (by assumption) (by refine ⟨by first | omega | (refine ⟨?_, ?_⟩ <;> (first | omega | (simp (disch := omega) only [w32_id, w64_id]; omega) | (simp (disch := omega) only [w32_id, w64_id] at *; omega) | (simp only [w32, w64] at *; omega) | exact (and32_le (by omega) (by omega)).1 | exact (and32_le (by omega) (by omega)).2 | exact (mulR (by omega) (by omega) (by omega) (by omega)).1 | exact (mulR (by omega) (by omega) (by omega) (by omega)).2 | (subst_vars; simp [upZ] at *; omega) | (subst_vars; simp [upZ] at *; simp only [w32, w64] at *; omega))) | (first | omega | (simp (disch := omega) only [w32_id, w64_id]; omega) | (simp (disch := omega) only [w32_id, w64_id] at *; omega) | (simp only [w32, w64] at *; omega) | exact (and32_le (by omega) (by omega)).1 | exact (and32_le (by omega) (by omega)).2 | exact (mulR (by omega) (by omega) (by omega) (by omega)).1 | exact (mulR (by omega) (by omega) (by omega) (by omega)).2 | (subst_vars; simp [upZ] at *; omega) | (subst_vars; simp [upZ] at *; simp only [w32, w64] at *; omega)), trivial⟩) (by first | omega | (simp (disch := omega) only [w32_id, w64_id]; omega) | (simp (disch := omega) only [w32_id, w64_id] at *; omega) | (simp only [w32, w64] at *; omega) | exact (and32_le (by omega) (by omega)).1 | exact (and32_le (by omega) (by omega)).2 | exact (mulR (by omega) (by omega) (by omega) (by omega)).1 | exact (mulR (by omega) (by omega) (by omega) (by omega)).2 | (subst_vars; simp [upZ] at *; omega) | (subst_vars; simp [upZ] at *; simp only [w32, w64] at *; omega))))
      | ((fail_if_success (first | (with_reducible show _ ≤ _) | (with_reducible show _ = _) | (with_reducible show _ ∨ _) | (with_reducible show _ < _) | (with_reducible show G _ _ _ _))); exact Exists.intro _ (Exists.intro _ ⟨rfl, rfl, by assumption, by assumption, by (first | omega | (simp (disch := omega) only [w32_id, w64_id]; omega) | (simp (disch := omega) only [w32_id, w64_id] at *; omega) | (simp only [w32, w64] at *; omega) | exact (and32_le (by omega) (by omega)).1 | exact (and32_le (by omega) (by omega)).2 | exact (mulR (by omega) (by omega) (by omega) (by omega)).1 | exact (mulR (by omega) (by omega) (by omega) (by omega)).2 | (subst_vars; simp [upZ] at *; omega) | (subst_vars; simp [upZ] at *; simp only [w32, w64] at *; omega)), by (first | omega | (simp (disch := omega) only [w32_id, w64_id]; omega) | (simp (disch := omega) only [w32_id, w64_id] at *; omega) | (simp only [w32, w64] at *; omega) | exact (and32_le (by omega) (by omega)).1 | exact (and32_le (by omega) (by omega)).2 | exact (mulR (by omega) (by omega) (by omega) (by omega)).1 | exact (mulR (by omega) (by omega) (by omega) (by omega)).2 | (subst_vars; simp [upZ] at *; omega) | (subst_vars; simp [upZ] at *; simp only [w32, w64] at *; omega))⟩))
      | ((fail_if_success (first | (with_reducible show _ ≤ _) | (with_reducible show _ = _) | (with_reducible show _ ∨ _) | (with_reducible show _ < _) | (with_reducible show G _ _ _ _))); exact Exists.intro _ (Exists.intro _ ⟨rfl, rfl, by assumption, by assumption⟩))
      | ((fail_if_success (first | (with_reducible show _ ≤ _) | (with_reducible show _ = _) | (with_reducible show _ ∨ _) | (with_reducible show _ < _) | (with_reducible show G _ _ _ _))); exact Exists.intro _ ⟨rfl, rfl, by assumption, by assumption⟩)
      | ((fail_if_success (first | (with_reducible show _ ≤ _) | (with_reducible show _ = _) | (with_reducible show _ ∨ _) | (with_reducible show _ < _) | (with_reducible show G _ _ _ _))); exact Or.inl (Exists.intro _ ⟨rfl, rfl, by assumption, by assumption⟩))
      | ((fail_if_success (first | (with_reducible show _ ≤ _) | (with_reducible show _ = _) | (with_reducible show _ ∨ _) | (with_reducible show _ < _) | (with_reducible show G _ _ _ _))); exact Or.inr (Exists.intro _ ⟨rfl, rfl, by assumption, by assumption⟩))
      | omega
      | rfl
      | exact trivial
      | decide
      | (show (0 : Int) < _; omega)
      | (show (0 : Int) < _; simp only [w64] at *; omega)
      | (simp only [w32, w64] at *; omega)
      | (first | omega | (simp (disch := omega) only [w32_id, w64_id]; omega) | (simp (disch := omega) only [w32_id, w64_id] at *; omega) | (simp only [w32, w64] at *; omega) | exact (and32_le (by omega) (by omega)).1 | exact (and32_le (by omega) (by omega)).2 | exact (mulR (by omega) (by omega) (by omega) (by omega)).1 | exact (mulR (by omega) (by omega) (by omega) (by omega)).2 | (subst_vars; simp [upZ] at *; omega) | (subst_vars; simp [upZ] at *; simp only [w32, w64] at *; omega))
      | skip
  · obtain rfl := h1
    have loop : ∀ fuel : Nat, (∀ (Z1 : ZT) (v3 : Int) (v4 : Int), CI Z1 → keeps ([]) Z Z1 → ((0 ≤ v4 ∧ v4 ≤ 36) ∧ True) → 37 - v4 ≤ (fuel : Int) → G 5 [(0, vr 95), (1, vr 2), (2, vi a2), (3, vi v3), (4, vi v4)] [] (n, Z1, R0)) := by
      intro fuel
      induction fuel with
      | zero => exact (by intros; omega)
      | succ fuel ih =>
        have ih5 := ih
        · intro Z1 v3 v4 hI1 hk1 hv hm
          obtain ⟨w0, -⟩ := hv
          clear hk hI
          refine wq_run hG n R0 [5] 900 _ _ _ _ ?_
          repeat' (first
              | with_reducible rfl
              | refine And.intro ?_ ?_
              | with_reducible exact True.intro
              | ((with_reducible show _ = true); rfl)
              | ((with_reducible show recvG _ _); rfl)
              | ((with_reducible show CI _); first | with_reducible assumption | assumption)
              | (fail_if_success (first | (with_reducible show _ ≤ _) | (with_reducible show _ = _) | (with_reducible show _ ∨ _) | (with_reducible show _ < _) | (with_reducible show G _ _ _ _))
                 first
                 | show G _ _ _ _
                 | (intro (Z2 : ZT) hZ2; have hZ3 : Z' = Z2 := hZ2.symm; subst hZ3)
                 | (intro (Z2 : ZT) hZ2; have hZ3 : Z1 = Z2 := hZ2.symm; subst hZ3)
                 | (intro (Z2 : ZT) hZ2; have hZ3 : Z = Z2 := hZ2.symm; subst hZ3)
                 | (refine ld_bnd (by first | with_reducible assumption | assumption) rfl ?_; intro _ _ _ _)
                 | (refine st_bnd (by first | with_reducible assumption | assumption) (by first | with_reducible assumption | assumption) (by decide) (fun lo hi hb => by first | (cases hb; done) | (cases hb; constructor <;> (first | omega | (simp (disch := omega) only [w32_id, w64_id]; omega) | (simp (disch := omega) only [w32_id, w64_id] at *; omega) | (simp only [w32, w64] at *; omega) | exact (and32_le (by omega) (by omega)).1 | exact (and32_le (by omega) (by omega)).2 | exact (mulR (by omega) (by omega) (by omega) (by omega)).1 | exact (mulR (by omega) (by omega) (by omega) (by omega)).2 | (subst_vars; simp [upZ] at *; omega) | (subst_vars; simp [upZ] at *; simp only [w32, w64] at *; omega)))) ?_; intro Z' _ _ _)
                 | (intro (r : Option PV) σ' hq
                    first
                    | (obtain ⟨rfl, rfl⟩ := hq)
                    | (obtain ⟨Z', x, rfl, rfl, hI2, hk2, hl2, hu2⟩ := hq; have hk3 := keeps_to (by first | with_reducible assumption | assumption) (by rfl) hk2; clear hk2)
                    | (obtain ⟨Z', x, rfl, rfl, hI2, hk2⟩ := hq; have hk3 := keeps_to (by first | with_reducible assumption | assumption) (by rfl) hk2; clear hk2)
                    | (rcases hq with ⟨Z', rfl, rfl, hI2, hk2⟩ | ⟨Z', rfl, rfl, hI2, hk2⟩ <;> (have hk3 := keeps_to (by first | with_reducible assumption | assumption) (by rfl) hk2; clear hk2))
                    | (obtain ⟨Z', rfl, rfl, hI2, hk2⟩ := hq; have hk3 := keeps_to (by first | with_reducible assumption | assumption) (by rfl) hk2; clear hk2))
                 | (intro hc; (try simp only [cmp3_c] at hc); simp only [cmpI] at hc)
                 | (show CI _; assumption)
                 | intro (_ : Int)
                 | intro (Z' : ZT)
                 | intro (_ : CI _)
                 | intro (_ : keeps _ _ _)
                 | intro (_ : _ ≤ _)
                 | intro (_ : _ = _)
                 | intro (_ : _ < _)
                 | intro (_ : _ ∨ _)))
          all_goals first
            | with_reducible rfl
            | ((with_reducible show _ = _); rfl)
            | ((with_reducible show recvG _ _); rfl)
            | with_reducible exact trivial
            | ((fail_if_success (first | (with_reducible show _ ≤ _) | (with_reducible show _ = _) | (with_reducible show _ ∨ _) | (with_reducible show _ < _) | (with_reducible show G _ _ _ _))); (refine Exists.intro _ (And.intro rfl (And.intro rfl (And.intro ?_ ?_)))) <;> with_reducible assumption)
            | ((with_reducible show G 5 _ _ _); exact hG.2 5 _ [(0, vr 95), (1, vr 2), (2, vi a2), (3, vi _), (4, vi _)] _ _ rfl (ih5 _ _ _ (by assumption) (by assumption) (by refine ⟨by first | omega | (refine ⟨?_, ?_⟩ <;> (first | omega | (simp (disch := omega) only [w32_id, w64_id]; omega) | (simp (disch := omega) only [w32_id, w64_id] at *; omega) | (simp only [w32, w64] at *; omega) | exact (and32_le (by omega) (by omega)).1 | exact (and32_le (by omega) (by omega)).2 | exact (mulR (by omega) (by omega) (by omega) (by omega)).1 | exact (mulR (by omega) (by omega) (by omega) (by omega)).2 | (subst_vars; simp [upZ] at *; omega) | (subst_vars; simp [upZ] at *; simp only [w32, w64] at *; omega))) | (first | omega | (simp (disch := omega) only [w32_id, w64_id]; omega) | (simp (disch := omega) only [w32_id, w64_id] at *; omega) | (simp only [w32, w64] at *; omega) | exact (and32_le (by omega) (by omega)).1 | exact (and32_le (by omega) (by omega)).2 | exact (mulR (by omega) (by omega) (by omega) (by omega)).1 | exact (mulR (by omega) (by omega) (by omega) (by omega)).2 | (subst_vars; simp [upZ] at *; omega) | (subst_vars; simp [upZ] at *; simp only [w32, w64] at *; omega)), trivial⟩) (by first | omega | (simp (disch := omega) only [w32_id, w64_id]; omega) | (simp (disch := omega) only [w32_id, w64_id] at *; omega) | (simp only [w32, w64] at *; omega) | exact (and32_le (by omega) (by omega)).1 | exact (and32_le (by omega) (by omega)).2 | exact (mulR (by omega) (by omega) (by omega) (by omega)).1 | exact (mulR (by omega) (by omega) (by omega) (by omega)).2 | (subst_vars; simp [upZ] at *; omega) | (subst_vars; simp [upZ] at *; simp only [w32, w64] at *; omega))))
            | ((fail_if_success (first | (with_reducible show _ ≤ _) | (with_reducible show _ = _) | (with_reducible show _ ∨ _) | (with_reducible show _ < _) | (with_reducible show G _ _ _ _))); exact Exists.intro _ (Exists.intro _ ⟨rfl, rfl, by assumption, by assumption, by (first | omega | (simp (disch := omega) only [w32_id, w64_id]; omega) | (simp (disch := omega) only [w32_id, w64_id] at *; omega) | (simp only [w32, w64] at *; omega) | exact (and32_le (by omega) (by omega)).1 | exact (and32_le (by omega) (by omega)).2 | exact (mulR (by omega) (by omega) (by omega) (by omega)).1 | exact (mulR (by omega) (by omega) (by omega) (by omega)).2 | (subst_vars; simp [upZ] at *; omega) | (subst_vars; simp [upZ] at *; simp only [w32, w64] at *; omega)), by (first | omega | (simp (disch := omega) only [w32_id, w64_id]; omega) | (simp (disch := omega) only [w32_id, w64_id] at *; omega) | (simp only [w32, w64] at *; omega) | exact (and32_le (by omega) (by omega)).1 | exact (and32_le (by omega) (by omega)).2 | exact (mulR (by omega) (by omega) (by omega) (by omega)).1 | exact (mulR (by omega) (by omega) (by omega) (by omega)).2 | (subst_vars; simp [upZ] at *; omega) | (subst_vars; simp [upZ] at *; simp only [w32, w64] at *; omega))⟩))
            | ((fail_if_success (first | (with_reducible show _ ≤ _) | (with_reducible show _ = _) | (with_reducible show _ ∨ _) | (with_reducible show _ < _) | (with_reducible show G _ _ _ _))); exact Exists.intro _ (Exists.intro _ ⟨rfl, rfl, by assumption, by assumption⟩))
            | ((fail_if_success (first | (with_reducible show _ ≤ _) | (with_reducible show _ = _) | (with_reducible show _ ∨ _) | (with_reducible show _ < _) | (with_reducible show G _ _ _ _))); exact Exists.intro _ ⟨rfl, rfl, by assumption, by assumption⟩)
            | ((fail_if_success (first | (with_reducible show _ ≤ _) | (with_reducible show _ = _) | (with_reducible show _ ∨ _) | (with_reducible show _ < _) | (with_reducible show G _ _ _ _))); exact Or.inl (Exists.intro _ ⟨rfl, rfl, by assumption, by assumption⟩))
            | ((fail_if_success (first | (with_reducible show _ ≤ _) | (with_reducible show _ = _) | (with_reducible show _ ∨ _) | (with_reducible show _ < _) | (with_reducible show G _ _ _ _))); exact Or.inr (Exists.intro _ ⟨rfl, rfl, by assumption, by assumption⟩))
            | omega
            | rfl
            | exact trivial
            | decide
            | (show (0 : Int) < _; omega)
            | (show (0 : Int) < _; simp only [w64] at *; omega)
            | (simp only [w32, w64] at *; omega)
            | (first | omega | (simp (disch := omega) only [w32_id, w64_id]; omega) | (simp (disch := omega) only [w32_id, w64_id] at *; omega) | (simp only [w32, w64] at *; omega) | exact (and32_le (by omega) (by omega)).1 | exact (and32_le (by omega) (by omega)).2 | exact (mulR (by omega) (by omega) (by omega) (by omega)).1 | exact (mulR (by omega) (by omega) (by omega) (by omega)).2 | (subst_vars; simp [upZ] at *; omega) | (subst_vars; simp [upZ] at *; simp only [w32, w64] at *; omega))
            | skip
    refine wq_run hG n R0 [5] 900 _ _ _ _ ?_
    repeat' (first
        | with_reducible rfl
        | refine And.intro ?_ ?_
        | with_reducible exact True.intro
        | ((with_reducible show _ = true); rfl)
        | ((with_reducible show recvG _ _); rfl)
        | ((with_reducible show CI _); first | with_reducible assumption | assumption)
        | (fail_if_success (first | (with_reducible show _ ≤ _) | (with_reducible show _ = _) | (with_reducible show _ ∨ _) | (with_reducible show _ < _) | (with_reducible show G _ _ _ _))
           first
           | show G _ _ _ _
           | (intro (Z2 : ZT) hZ2; have hZ3 : Z' = Z2 := hZ2.symm; subst hZ3)
           | (intro (Z2 : ZT) hZ2; have hZ3 : Z1 = Z2 := hZ2.symm; subst hZ3)
           | (intro (Z2 : ZT) hZ2; have hZ3 : Z = Z2 := hZ2.symm; subst hZ3)
           | (refine ld_bnd (by first | with_reducible assumption | assumption) rfl ?_; intro _ _ _ _)
           | (refine st_bnd (by first | with_reducible assumption | assumption) (by first | with_reducible assumption | assumption) (by decide) (fun lo hi hb => by first | (cases hb; done) | (cases hb; constructor <;> (first | omega | (simp (disch := omega) only [w32_id, w64_id]; omega) | (simp (disch := omega) only [w32_id, w64_id] at *; omega) | (simp only [w32, w64] at *; omega) | exact (and32_le (by omega) (by omega)).1 | exact (and32_le (by omega) (by omega)).2 | exact (mulR (by omega) (by omega) (by omega) (by omega)).1 | exact (mulR (by omega) (by omega) (by omega) (by omega)).2 | (subst_vars; simp [upZ] at *; omega) | (subst_vars; simp [upZ] at *; simp only [w32, w64] at *; omega)))) ?_; intro Z' _ _ _)
           | (intro (r : Option PV) σ' hq
              first
              | (obtain ⟨rfl, rfl⟩ := hq)
              | (obtain ⟨Z', x, rfl, rfl, hI2, hk2, hl2, hu2⟩ := hq; have hk3 := keeps_to (by first | with_reducible assumption | assumption) (by rfl) hk2; clear hk2)
              | (obtain ⟨Z', x, rfl, rfl, hI2, hk2⟩ := hq; have hk3 := keeps_to (by first | with_reducible assumption | assumption) (by rfl) hk2; clear hk2)
              | (rcases hq with ⟨Z', rfl, rfl, hI2, hk2⟩ | ⟨Z', rfl, rfl, hI2, hk2⟩ <;> (have hk3 := keeps_to (by first | with_reducible assumption | assumption) (by rfl) hk2; clear hk2))
              | (obtain ⟨Z', rfl, rfl, hI2, hk2⟩ := hq; have hk3 := keeps_to (by first | with_reducible assumption | assumption) (by rfl) hk2; clear hk2))
           | (intro hc; (try simp only [cmp3_c] at hc); simp only [cmpI] at hc)
           | (show CI _; assumption)
           | intro (_ : Int)
           | intro (Z' : ZT)
           | intro (_ : CI _)
           | intro (_ : keeps _ _ _)
           | intro (_ : _ ≤ _)
           | intro (_ : _ = _)
           | intro (_ : _ < _)
           | intro (_ : _ ∨ _)))
    all_goals (have lp5 := loop 1000000)
    all_goals first
      | with_reducible rfl
      | ((with_reducible show _ = _); rfl)
      | ((with_reducible show recvG _ _); rfl)
      | with_reducible exact trivial
      | ((fail_if_success (first | (with_reducible show _ ≤ _) | (with_reducible show _ = _) | (with_reducible show _ ∨ _) | (with_reducible show _ < _) | (with_reducible show G _ _ _ _))); (refine Exists.intro _ (And.intro rfl (And.intro rfl (And.intro ?_ ?_)))) <;> with_reducible assumption)
      | ((with_reducible show G 5 _ _ _); exact hG.2 5 _ [(0, vr 95), (1, vr 2), (2, vi a2), (3, vi _), (4, vi _)] _ _ rfl (lp5 _ _ _ (by assumption) (by assumption) (by refine ⟨by first | omega | (refine ⟨?_, ?_⟩ <;> (first | omega | (simp (disch := omega) only [w32_id, w64_id]; omega) | (simp (disch := omega) only [w32_id, w64_id] at *; omega) | (simp only [w32, w64] at *; omega) | exact (and32_le (by omega) (by omega)).1 | exact (and32_le (by omega) (by omega)).2 | exact (mulR (by omega) (by omega) (by omega) (by omega)).1 | exact (mulR (by omega) (by omega) (by omega) (by omega)).2 | (subst_vars; simp [upZ] at *; omega) | (subst_vars; simp [upZ] at *; simp only [w32, w64] at *; omega))) | (first | omega | (simp (disch := omega) only [w32_id, w64_id]; omega) | (simp (disch := omega) only [w32_id, w64_id] at *; omega) | (simp only [w32, w64] at *; omega) | exact (and32_le (by omega) (by omega)).1 | exact (and32_le (by omega) (by omega)).2 | exact (mulR (by omega) (by omega) (by omega) (by omega)).1 | exact (mulR (by omega) (by omega) (by omega) (by omega)).2 | (subst_vars; simp [upZ] at *; omega) | (subst_vars; simp [upZ] at *; simp only [w32, w64] at *; omega)), trivial⟩) (by first | omega | (simp (disch := omega) only [w32_id, w64_id]; omega) | (simp (disch := omega) only [w32_id, w64_id] at *; omega) | (simp only [w32, w64] at *; omega) | exact (and32_le (by omega) (by omega)).1 | exact (and32_le (by omega) (by omega)).2 | exact (mulR (by omega) (by omega) (by omega) (by omega)).1 | exact (mulR (by omega) (by omega) (by omega) (by omega)).2 | (subst_vars; simp [upZ] at *; omega) | (subst_vars; simp [upZ] at *; simp only [w32, w64] at *; omega))))
      | ((fail_if_success (first | (with_reducible show _ ≤ _) | (with_reducible show _ = _) | (with_reducible show _ ∨ _) | (with_reducible show _ < _) | (with_reducible show G _ _ _ _))); exact Exists.intro _ (Exists.intro _ ⟨rfl, rfl, by assumption, by assumption, by (first | omega | (simp (disch := omega) only [w32_id, w64_id]; omega) | (simp (disch := omega) only [w32_id, w64_id] at *; omega) | (simp only [w32, w64] at *; omega) | exact (and32_le (by omega) (by omega)).1 | exact (and32_le (by omega) (by omega)).2 | exact (mulR (by omega) (by omega) (by omega) (by omega)).1 | exact (mulR (by omega) (by omega) (by omega) (by omega)).2 | (subst_vars; simp [upZ] at *; omega) | (subst_vars; simp [upZ] at *; simp only [w32, w64] at *; omega)), by (first | omega | (simp (disch := omega) only [w32_id, w64_id]; omega) | (simp (disch := omega) only [w32_id, w64_id] at *; omega) | (simp only [w32, w64] at *; omega) | exact (and32_le (by omega) (by omega)).1 | exact (and32_le (by omega) (by omega)).2 | exact (mulR (by omega) (by omega) (by omega) (by omega)).1 | exact (mulR (by omega) (by omega) (by omega) (by omega)).2 | (subst_vars; simp [upZ] at *; omega) | (subst_vars; simp [upZ] at *; simp only [w32, w64] at *; omega))⟩))
      | ((fail_if_success (first | (with_reducible show _ ≤ _) | (with_reducible show _ = _) | (with_reducible show _ ∨ _) | (with_reducible show _ < _) | (with_reducible show G _ _ _ _))); exact Exists.intro _ (Exists.intro _ ⟨rfl, rfl, by assumption, by assumption⟩))
      | ((fail_if_success (first | (with_reducible show _ ≤ _) | (with_reducible show _ = _) | (with_reducible show _ ∨ _) | (with_reducible show _ < _) | (with_reducible show G _ _ _ _))); exact Exists.intro _ ⟨rfl, rfl, by assumption, by assumption⟩)
      | ((fail_if_success (first | (with_reducible show _ ≤ _) | (with_reducible show _ = _) | (with_reducible show _ ∨ _) | (with_reducible show _ < _) | (with_reducible show G _ _ _ _))); exact Or.inl (Exists.intro _ ⟨rfl, rfl, by assumption, by assumption⟩))
      | ((fail_if_success (first | (with_reducible show _ ≤ _) | (with_reducible show _ = _) | (with_reducible show _ ∨ _) | (with_reducible show _ < _) | (with_reducible show G _ _ _ _))); exact Or.inr (Exists.intro _ ⟨rfl, rfl, by assumption, by assumption⟩))
      | omega
      | rfl
      | exact trivial
      | decide
      | (show (0 : Int) < _; omega)
      | (show (0 : Int) < _; simp only [w64] at *; omega)
      | (simp only [w32, w64] at *; omega)
      | (first | omega | (simp (disch := omega) only [w32_id, w64_id]; omega) | (simp (disch := omega) only [w32_id, w64_id] at *; omega) | (simp only [w32, w64] at *; omega) | exact (and32_le (by omega) (by omega)).1 | exact (and32_le (by omega) (by omega)).2 | exact (mulR (by omega) (by omega) (by omega) (by omega)).1 | exact (mulR (by omega) (by omega) (by omega) (by omega)).2 | (subst_vars; simp [upZ] at *; omega) | (subst_vars; simp [upZ] at *; simp only [w32, w64] at *; omega))
      | skip
def s_X9_restart : Sp := wspV 1 9 (fun as Z => match as with
    | [.inr (.inr a0)] => ((a0 = 88 ∨ a0 = 95)) ∧ True
    | _ => False) (fun as => match as with
    | [.inr (.inr a0)] => [a0, a0 + 3]
    | _ => [])
set_option maxRecDepth 100000 in
set_option maxHeartbeats 40000000 in
theorem c_X9_restart {l : Launch} {D : va_G} {cA : Nat → ClassId} : PM l D cA yX9_restart cX9_restart 2 none 0 0 s_X9_restart := by
  refine of_X9_restart  (fun as σ hwf hao hpre => ?_)
  obtain ⟨n, Z, R⟩ := σ
  obtain ⟨hR, hI, hpre⟩ := hpre
  obtain rfl : R = R0 := hR
  rcases as with _ | ⟨x | x | a0, _ | ⟨v, t⟩⟩ <;> first | exact (hpre : False).elim | skip
  obtain ⟨h0, -⟩ := hpre
  have hk : keeps ([a0, a0 + 3]) Z Z := keeps_refl
  refine ⟨Nat.le_of_ble_eq_true rfl, fun G hG => ?_⟩
  clear hao hwf
  rcases h0 with rfl | rfl
  · have loop : ∀ fuel : Nat, (∀ (Z1 : ZT) (v1 : Int), CI Z1 → keeps ([88, 88 + 3]) Z Z1 → ((0 ≤ v1 ∧ v1 ≤ 6) ∧ True) → 7 - v1 ≤ (fuel : Int) → G 7 [(0, vr 88), (1, vi v1)] [] (n, Z1, R0)) := by
      intro fuel
      induction fuel with
      | zero => exact (by intros; omega)
      | succ fuel ih =>
        have ih7 := ih
        · intro Z1 v1 hI1 hk1 hv hm
          obtain ⟨w0, -⟩ := hv
          clear hk hI
          refine wq_run hG n R0 [7] 900 _ _ _ _ ?_
          repeat' (first
              | with_reducible rfl
              | refine And.intro ?_ ?_
              | with_reducible exact True.intro
              | ((with_reducible show _ = true); rfl)
              | ((with_reducible show recvG _ _); rfl)
              | ((with_reducible show CI _); first | with_reducible assumption | assumption)
              | (fail_if_success (first | (with_reducible show _ ≤ _) | (with_reducible show _ = _) | (with_reducible show _ ∨ _) | (with_reducible show _ < _) | (with_reducible show G _ _ _ _))
                 first
                 | show G _ _ _ _
                 | (intro (Z2 : ZT) hZ2; have hZ3 : Z' = Z2 := hZ2.symm; subst hZ3)
                 | (intro (Z2 : ZT) hZ2; have hZ3 : Z1 = Z2 := hZ2.symm; subst hZ3)
                 | (intro (Z2 : ZT) hZ2; have hZ3 : Z = Z2 := hZ2.symm; subst hZ3)
                 | (refine ld_bnd (by first | with_reducible assumption | assumption) rfl ?_; intro _ _ _ _)
                 | (refine st_bnd (by first | with_reducible assumption | assumption) (by first | with_reducible assumption | assumption) (by decide) (fun lo hi hb => by first | (cases hb; done) | (cases hb; constructor <;> (first | omega | (simp (disch := omega) only [w32_id, w64_id]; omega) | (simp (disch := omega) only [w32_id, w64_id] at *; omega) | (simp only [w32, w64] at *; omega) | exact (and32_le (by omega) (by omega)).1 | exact (and32_le (by omega) (by omega)).2 | exact (mulR (by omega) (by omega) (by omega) (by omega)).1 | exact (mulR (by omega) (by omega) (by omega) (by omega)).2 | (subst_vars; simp [upZ] at *; omega) | (subst_vars; simp [upZ] at *; simp only [w32, w64] at *; omega)))) ?_; intro Z' _ _ _)
                 | (intro (r : Option PV) σ' hq
                    first
                    | (obtain ⟨rfl, rfl⟩ := hq)
                    | (obtain ⟨Z', x, rfl, rfl, hI2, hk2, hl2, hu2⟩ := hq; have hk3 := keeps_to (by first | with_reducible assumption | assumption) (by rfl) hk2; clear hk2)
                    | (obtain ⟨Z', x, rfl, rfl, hI2, hk2⟩ := hq; have hk3 := keeps_to (by first | with_reducible assumption | assumption) (by rfl) hk2; clear hk2)
                    | (rcases hq with ⟨Z', rfl, rfl, hI2, hk2⟩ | ⟨Z', rfl, rfl, hI2, hk2⟩ <;> (have hk3 := keeps_to (by first | with_reducible assumption | assumption) (by rfl) hk2; clear hk2))
                    | (obtain ⟨Z', rfl, rfl, hI2, hk2⟩ := hq; have hk3 := keeps_to (by first | with_reducible assumption | assumption) (by rfl) hk2; clear hk2))
                 | (intro hc; (try simp only [cmp3_c] at hc); simp only [cmpI] at hc)
                 | (show CI _; assumption)
                 | intro (_ : Int)
                 | intro (Z' : ZT)
                 | intro (_ : CI _)
                 | intro (_ : keeps _ _ _)
                 | intro (_ : _ ≤ _)
                 | intro (_ : _ = _)
                 | intro (_ : _ < _)
                 | intro (_ : _ ∨ _)))
          all_goals first
            | with_reducible rfl
            | ((with_reducible show _ = _); rfl)
            | ((with_reducible show recvG _ _); rfl)
            | with_reducible exact trivial
            | ((fail_if_success (first | (with_reducible show _ ≤ _) | (with_reducible show _ = _) | (with_reducible show _ ∨ _) | (with_reducible show _ < _) | (with_reducible show G _ _ _ _))); (refine Exists.intro _ (And.intro rfl (And.intro rfl (And.intro ?_ ?_)))) <;> with_reducible assumption)
            | ((with_reducible show G 7 _ _ _); exact hG.2 7 _ [(0, vr 88), (1, vi _)] _ _ rfl (ih7 _ _ (by assumption) (by assumption) (by refine ⟨by first | omega | (refine ⟨?_, ?_⟩ <;> (first | omega | (simp (disch := omega) only [w32_id, w64_id]; omega) | (simp (disch := omega) only [w32_id, w64_id] at *; omega) | (simp only [w32, w64] at *; omega) | exact (and32_le (by omega) (by omega)).1 | exact (and32_le (by omega) (by omega)).2 | exact (mulR (by omega) (by omega) (by omega) (by omega)).1 | exact (mulR (by omega) (by omega) (by omega) (by omega)).2 | (subst_vars; simp [upZ] at *; omega) | (subst_vars; simp [upZ] at *; simp only [w32, w64] at *; omega))) | (first | omega | (simp (disch := omega) only [w32_id, w64_id]; omega) | (simp (disch := omega) only [w32_id, w64_id] at *; omega) | (simp only [w32, w64] at *; omega) | exact (and32_le (by omega) (by omega)).1 | exact (and32_le (by omega) (by omega)).2 | exact (mulR (by omega) (by omega) (by omega) (by omega)).1 | exact (mulR (by omega) (by omega) (by omega) (by omega)).2 | (subst_vars; simp [upZ] at *; omega) | (subst_vars; simp [upZ] at *; simp only [w32, w64] at *; omega)), trivial⟩) (by first | omega | (simp (disch := omega) only [w32_id, w64_id]; omega) | (simp (disch := omega) only [w32_id, w64_id] at *; omega) | (simp only [w32, w64] at *; omega) | exact (and32_le (by omega) (by omega)).1 | exact (and32_le (by omega) (by omega)).2 | exact (mulR (by omega) (by omega) (by omega) (by omega)).1 | exact (mulR (by omega) (by omega) (by omega) (by omega)).2 | (subst_vars; simp [upZ] at *; omega) | (subst_vars; simp [upZ] at *; simp only [w32, w64] at *; omega))))
            | ((fail_if_success (first | (with_reducible show _ ≤ _) | (with_reducible show _ = _) | (with_reducible show _ ∨ _) | (with_reducible show _ < _) | (with_reducible show G _ _ _ _))); exact Exists.intro _ (Exists.intro _ ⟨rfl, rfl, by assumption, by assumption, by (first | omega | (simp (disch := omega) only [w32_id, w64_id]; omega) | (simp (disch := omega) only [w32_id, w64_id] at *; omega) | (simp only [w32, w64] at *; omega) | exact (and32_le (by omega) (by omega)).1 | exact (and32_le (by omega) (by omega)).2 | exact (mulR (by omega) (by omega) (by omega) (by omega)).1 | exact (mulR (by omega) (by omega) (by omega) (by omega)).2 | (subst_vars; simp [upZ] at *; omega) | (subst_vars; simp [upZ] at *; simp only [w32, w64] at *; omega)), by (first | omega | (simp (disch := omega) only [w32_id, w64_id]; omega) | (simp (disch := omega) only [w32_id, w64_id] at *; omega) | (simp only [w32, w64] at *; omega) | exact (and32_le (by omega) (by omega)).1 | exact (and32_le (by omega) (by omega)).2 | exact (mulR (by omega) (by omega) (by omega) (by omega)).1 | exact (mulR (by omega) (by omega) (by omega) (by omega)).2 | (subst_vars; simp [upZ] at *; omega) | (subst_vars; simp [upZ] at *; simp only [w32, w64] at *; omega))⟩))
            | ((fail_if_success (first | (with_reducible show _ ≤ _) | (with_reducible show _ = _) | (with_reducible show _ ∨ _) | (with_reducible show _ < _) | (with_reducible show G _ _ _ _))); exact Exists.intro _ (Exists.intro _ ⟨rfl, rfl, by assumption, by assumption⟩))
            | ((fail_if_success (first | (with_reducible show _ ≤ _) | (with_reducible show _ = _) | (with_reducible show _ ∨ _) | (with_reducible show _ < _) | (with_reducible show G _ _ _ _))); exact Exists.intro _ ⟨rfl, rfl, by assumption, by assumption⟩)
            | ((fail_if_success (first | (with_reducible show _ ≤ _) | (with_reducible show _ = _) | (with_reducible show _ ∨ _) | (with_reducible show _ < _) | (with_reducible show G _ _ _ _))); exact Or.inl (Exists.intro _ ⟨rfl, rfl, by assumption, by assumption⟩))
            | ((fail_if_success (first | (with_reducible show _ ≤ _) | (with_reducible show _ = _) | (with_reducible show _ ∨ _) | (with_reducible show _ < _) | (with_reducible show G _ _ _ _))); exact Or.inr (Exists.intro _ ⟨rfl, rfl, by assumption, by assumption⟩))
            | omega
            | rfl
            | exact trivial
            | decide
            | (show (0 : Int) < _; omega)
            | (show (0 : Int) < _; simp only [w64] at *; omega)
            | (simp only [w32, w64] at *; omega)
            | (first | omega | (simp (disch := omega) only [w32_id, w64_id]; omega) | (simp (disch := omega) only [w32_id, w64_id] at *; omega) | (simp only [w32, w64] at *; omega) | exact (and32_le (by omega) (by omega)).1 | exact (and32_le (by omega) (by omega)).2 | exact (mulR (by omega) (by omega) (by omega) (by omega)).1 | exact (mulR (by omega) (by omega) (by omega) (by omega)).2 | (subst_vars; simp [upZ] at *; omega) | (subst_vars; simp [upZ] at *; simp only [w32, w64] at *; omega))
            | skip
    refine wq_run hG n R0 [7] 900 _ _ _ _ ?_
    repeat' (first
        | with_reducible rfl
        | refine And.intro ?_ ?_
        | with_reducible exact True.intro
        | ((with_reducible show _ = true); rfl)
        | ((with_reducible show recvG _ _); rfl)
        | ((with_reducible show CI _); first | with_reducible assumption | assumption)
        | (fail_if_success (first | (with_reducible show _ ≤ _) | (with_reducible show _ = _) | (with_reducible show _ ∨ _) | (with_reducible show _ < _) | (with_reducible show G _ _ _ _))
           first
           | show G _ _ _ _
           | (intro (Z2 : ZT) hZ2; have hZ3 : Z' = Z2 := hZ2.symm; subst hZ3)
           | (intro (Z2 : ZT) hZ2; have hZ3 : Z1 = Z2 := hZ2.symm; subst hZ3)
           | (intro (Z2 : ZT) hZ2; have hZ3 : Z = Z2 := hZ2.symm; subst hZ3)
           | (refine ld_bnd (by first | with_reducible assumption | assumption) rfl ?_; intro _ _ _ _)
           | (refine st_bnd (by first | with_reducible assumption | assumption) (by first | with_reducible assumption | assumption) (by decide) (fun lo hi hb => by first | (cases hb; done) | (cases hb; constructor <;> (first | omega | (simp (disch := omega) only [w32_id, w64_id]; omega) | (simp (disch := omega) only [w32_id, w64_id] at *; omega) | (simp only [w32, w64] at *; omega) | exact (and32_le (by omega) (by omega)).1 | exact (and32_le (by omega) (by omega)).2 | exact (mulR (by omega) (by omega) (by omega) (by omega)).1 | exact (mulR (by omega) (by omega) (by omega) (by omega)).2 | (subst_vars; simp [upZ] at *; omega) | (subst_vars; simp [upZ] at *; simp only [w32, w64] at *; omega)))) ?_; intro Z' _ _ _)
           | (intro (r : Option PV) σ' hq
              first
              | (obtain ⟨rfl, rfl⟩ := hq)
              | (obtain ⟨Z', x, rfl, rfl, hI2, hk2, hl2, hu2⟩ := hq; have hk3 := keeps_to (by first | with_reducible assumption | assumption) (by rfl) hk2; clear hk2)
              | (obtain ⟨Z', x, rfl, rfl, hI2, hk2⟩ := hq; have hk3 := keeps_to (by first | with_reducible assumption | assumption) (by rfl) hk2; clear hk2)
              | (rcases hq with ⟨Z', rfl, rfl, hI2, hk2⟩ | ⟨Z', rfl, rfl, hI2, hk2⟩ <;> (have hk3 := keeps_to (by first | with_reducible assumption | assumption) (by rfl) hk2; clear hk2))
              | (obtain ⟨Z', rfl, rfl, hI2, hk2⟩ := hq; have hk3 := keeps_to (by first | with_reducible assumption | assumption) (by rfl) hk2; clear hk2))
           | (intro hc; (try simp only [cmp3_c] at hc); simp only [cmpI] at hc)
           | (show CI _; assumption)
           | intro (_ : Int)
           | intro (Z' : ZT)
           | intro (_ : CI _)
           | intro (_ : keeps _ _ _)
           | intro (_ : _ ≤ _)
           | intro (_ : _ = _)
           | intro (_ : _ < _)
           | intro (_ : _ ∨ _)))
    all_goals (have lp7 := loop 1000000)
    all_goals first
      | with_reducible rfl
      | ((with_reducible show _ = _); rfl)
      | ((with_reducible show recvG _ _); rfl)
      | with_reducible exact trivial
      | ((fail_if_success (first | (with_reducible show _ ≤ _) | (with_reducible show _ = _) | (with_reducible show _ ∨ _) | (with_reducible show _ < _) | (with_reducible show G _ _ _ _))); (refine Exists.intro _ (And.intro rfl (And.intro rfl (And.intro ?_ ?_)))) <;> with_reducible assumption)
      | ((with_reducible show G 7 _ _ _); exact hG.2 7 _ [(0, vr 88), (1, vi _)] _ _ rfl (lp7 _ _ (by assumption) (by assumption) (by refine ⟨by first | omega | (refine ⟨?_, ?_⟩ <;> (first | omega | (simp (disch := omega) only [w32_id, w64_id]; omega) | (simp (disch := omega) only [w32_id, w64_id] at *; omega) | (simp only [w32, w64] at *; omega) | exact (and32_le (by omega) (by omega)).1 | exact (and32_le (by omega) (by omega)).2 | exact (mulR (by omega) (by omega) (by omega) (by omega)).1 | exact (mulR (by omega) (by omega) (by omega) (by omega)).2 | (subst_vars; simp [upZ] at *; omega) | (subst_vars; simp [upZ] at *; simp only [w32, w64] at *; omega))) | (first | omega | (simp (disch := omega) only [w32_id, w64_id]; omega) | (simp (disch := omega) only [w32_id, w64_id] at *; omega) | (simp only [w32, w64] at *; omega) | exact (and32_le (by omega) (by omega)).1 | exact (and32_le (by omega) (by omega)).2 | exact (mulR (by omega) (by omega) (by omega) (by omega)).1 | exact (mulR (by omega) (by omega) (by omega) (by omega)).2 | (subst_vars; simp [upZ] at *; omega) | (subst_vars; simp [upZ] at *; simp only [w32, w64] at *; omega)), trivial⟩) (by first | omega | (simp (disch := omega) only [w32_id, w64_id]; omega) | (simp (disch := omega) only [w32_id, w64_id] at *; omega) | (simp only [w32, w64] at *; omega) | exact (and32_le (by omega) (by omega)).1 | exact (and32_le (by omega) (by omega)).2 | exact (mulR (by omega) (by omega) (by omega) (by omega)).1 | exact (mulR (by omega) (by omega) (by omega) (by omega)).2 | (subst_vars; simp [upZ] at *; omega) | (subst_vars; simp [upZ] at *; simp only [w32, w64] at *; omega))))
      | ((fail_if_success (first | (with_reducible show _ ≤ _) | (with_reducible show _ = _) | (with_reducible show _ ∨ _) | (with_reducible show _ < _) | (with_reducible show G _ _ _ _))); exact Exists.intro _ (Exists.intro _ ⟨rfl, rfl, by assumption, by assumption, by (first | omega | (simp (disch := omega) only [w32_id, w64_id]; omega) | (simp (disch := omega) only [w32_id, w64_id] at *; omega) | (simp only [w32, w64] at *; omega) | exact (and32_le (by omega) (by omega)).1 | exact (and32_le (by omega) (by omega)).2 | exact (mulR (by omega) (by omega) (by omega) (by omega)).1 | exact (mulR (by omega) (by omega) (by omega) (by omega)).2 | (subst_vars; simp [upZ] at *; omega) | (subst_vars; simp [upZ] at *; simp only [w32, w64] at *; omega)), by (first | omega | (simp (disch := omega) only [w32_id, w64_id]; omega) | (simp (disch := omega) only [w32_id, w64_id] at *; omega) | (simp only [w32, w64] at *; omega) | exact (and32_le (by omega) (by omega)).1 | exact (and32_le (by omega) (by omega)).2 | exact (mulR (by omega) (by omega) (by omega) (by omega)).1 | exact (mulR (by omega) (by omega) (by omega) (by omega)).2 | (subst_vars; simp [upZ] at *; omega) | (subst_vars; simp [upZ] at *; simp only [w32, w64] at *; omega))⟩))
      | ((fail_if_success (first | (with_reducible show _ ≤ _) | (with_reducible show _ = _) | (with_reducible show _ ∨ _) | (with_reducible show _ < _) | (with_reducible show G _ _ _ _))); exact Exists.intro _ (Exists.intro _ ⟨rfl, rfl, by assumption, by assumption⟩))
      | ((fail_if_success (first | (with_reducible show _ ≤ _) | (with_reducible show _ = _) | (with_reducible show _ ∨ _) | (with_reducible show _ < _) | (with_reducible show G _ _ _ _))); exact Exists.intro _ ⟨rfl, rfl, by assumption, by assumption⟩)
      | ((fail_if_success (first | (with_reducible show _ ≤ _) | (with_reducible show _ = _) | (with_reducible show _ ∨ _) | (with_reducible show _ < _) | (with_reducible show G _ _ _ _))); exact Or.inl (Exists.intro _ ⟨rfl, rfl, by assumption, by assumption⟩))
      | ((fail_if_success (first | (with_reducible show _ ≤ _) | (with_reducible show _ = _) | (with_reducible show _ ∨ _) | (with_reducible show _ < _) | (with_reducible show G _ _ _ _))); exact Or.inr (Exists.intro _ ⟨rfl, rfl, by assumption, by assumption⟩))
      | omega
      | rfl
      | exact trivial
      | decide
      | (show (0 : Int) < _; omega)
      | (show (0 : Int) < _; simp only [w64] at *; omega)
      | (simp only [w32, w64] at *; omega)
      | (first | omega | (simp (disch := omega) only [w32_id, w64_id]; omega) | (simp (disch := omega) only [w32_id, w64_id] at *; omega) | (simp only [w32, w64] at *; omega) | exact (and32_le (by omega) (by omega)).1 | exact (and32_le (by omega) (by omega)).2 | exact (mulR (by omega) (by omega) (by omega) (by omega)).1 | exact (mulR (by omega) (by omega) (by omega) (by omega)).2 | (subst_vars; simp [upZ] at *; omega) | (subst_vars; simp [upZ] at *; simp only [w32, w64] at *; omega))
      | skip
  · have loop : ∀ fuel : Nat, (∀ (Z1 : ZT) (v1 : Int), CI Z1 → keeps ([95, 95 + 3]) Z Z1 → ((0 ≤ v1 ∧ v1 ≤ 6) ∧ True) → 7 - v1 ≤ (fuel : Int) → G 7 [(0, vr 95), (1, vi v1)] [] (n, Z1, R0)) := by
      intro fuel
      induction fuel with
      | zero => exact (by intros; omega)
      | succ fuel ih =>
        have ih7 := ih
        · intro Z1 v1 hI1 hk1 hv hm
          obtain ⟨w0, -⟩ := hv
          clear hk hI
          refine wq_run hG n R0 [7] 900 _ _ _ _ ?_
          repeat' (first
              | with_reducible rfl
              | refine And.intro ?_ ?_
              | with_reducible exact True.intro
              | ((with_reducible show _ = true); rfl)
              | ((with_reducible show recvG _ _); rfl)
              | ((with_reducible show CI _); first | with_reducible assumption | assumption)
              | (fail_if_success (first | (with_reducible show _ ≤ _) | (with_reducible show _ = _) | (with_reducible show _ ∨ _) | (with_reducible show _ < _) | (with_reducible show G _ _ _ _))
                 first
                 | show G _ _ _ _
                 | (intro (Z2 : ZT) hZ2; have hZ3 : Z' = Z2 := hZ2.symm; subst hZ3)
                 | (intro (Z2 : ZT) hZ2; have hZ3 : Z1 = Z2 := hZ2.symm; subst hZ3)
                 | (intro (Z2 : ZT) hZ2; have hZ3 : Z = Z2 := hZ2.symm; subst hZ3)
                 | (refine ld_bnd (by first | with_reducible assumption | assumption) rfl ?_; intro _ _ _ _)
                 | (refine st_bnd (by first | with_reducible assumption | assumption) (by first | with_reducible assumption | assumption) (by decide) (fun lo hi hb => by first | (cases hb; done) | (cases hb; constructor <;> (first | omega | (simp (disch := omega) only [w32_id, w64_id]; omega) | (simp (disch := omega) only [w32_id, w64_id] at *; omega) | (simp only [w32, w64] at *; omega) | exact (and32_le (by omega) (by omega)).1 | exact (and32_le (by omega) (by omega)).2 | exact (mulR (by omega) (by omega) (by omega) (by omega)).1 | exact (mulR (by omega) (by omega) (by omega) (by omega)).2 | (subst_vars; simp [upZ] at *; omega) | (subst_vars; simp [upZ] at *; simp only [w32, w64] at *; omega)))) ?_; intro Z' _ _ _)
                 | (intro (r : Option PV) σ' hq
                    first
                    | (obtain ⟨rfl, rfl⟩ := hq)
                    | (obtain ⟨Z', x, rfl, rfl, hI2, hk2, hl2, hu2⟩ := hq; have hk3 := keeps_to (by first | with_reducible assumption | assumption) (by rfl) hk2; clear hk2)
                    | (obtain ⟨Z', x, rfl, rfl, hI2, hk2⟩ := hq; have hk3 := keeps_to (by first | with_reducible assumption | assumption) (by rfl) hk2; clear hk2)
                    | (rcases hq with ⟨Z', rfl, rfl, hI2, hk2⟩ | ⟨Z', rfl, rfl, hI2, hk2⟩ <;> (have hk3 := keeps_to (by first | with_reducible assumption | assumption) (by rfl) hk2; clear hk2))
                    | (obtain ⟨Z', rfl, rfl, hI2, hk2⟩ := hq; have hk3 := keeps_to (by first | with_reducible assumption | assumption) (by rfl) hk2; clear hk2))
                 | (intro hc; (try simp only [cmp3_c] at hc); simp only [cmpI] at hc)
                 | (show CI _; assumption)
                 | intro (_ : Int)
                 | intro (Z' : ZT)
                 | intro (_ : CI _)
                 | intro (_ : keeps _ _ _)
                 | intro (_ : _ ≤ _)
                 | intro (_ : _ = _)
                 | intro (_ : _ < _)
                 | intro (_ : _ ∨ _)))
          all_goals first
            | with_reducible rfl
            | ((with_reducible show _ = _); rfl)
            | ((with_reducible show recvG _ _); rfl)
            | with_reducible exact trivial
            | ((fail_if_success (first | (with_reducible show _ ≤ _) | (with_reducible show _ = _) | (with_reducible show _ ∨ _) | (with_reducible show _ < _) | (with_reducible show G _ _ _ _))); (refine Exists.intro _ (And.intro rfl (And.intro rfl (And.intro ?_ ?_)))) <;> with_reducible assumption)
            | ((with_reducible show G 7 _ _ _); exact hG.2 7 _ [(0, vr 95), (1, vi _)] _ _ rfl (ih7 _ _ (by assumption) (by assumption) (by refine ⟨by first | omega | (refine ⟨?_, ?_⟩ <;> (first | omega | (simp (disch := omega) only [w32_id, w64_id]; omega) | (simp (disch := omega) only [w32_id, w64_id] at *; omega) | (simp only [w32, w64] at *; omega) | exact (and32_le (by omega) (by omega)).1 | exact (and32_le (by omega) (by omega)).2 | exact (mulR (by omega) (by omega) (by omega) (by omega)).1 | exact (mulR (by omega) (by omega) (by omega) (by omega)).2 | (subst_vars; simp [upZ] at *; omega) | (subst_vars; simp [upZ] at *; simp only [w32, w64] at *; omega))) | (first | omega | (simp (disch := omega) only [w32_id, w64_id]; omega) | (simp (disch := omega) only [w32_id, w64_id] at *; omega) | (simp only [w32, w64] at *; omega) | exact (and32_le (by omega) (by omega)).1 | exact (and32_le (by omega) (by omega)).2 | exact (mulR (by omega) (by omega) (by omega) (by omega)).1 | exact (mulR (by omega) (by omega) (by omega) (by omega)).2 | (subst_vars; simp [upZ] at *; omega) | (subst_vars; simp [upZ] at *; simp only [w32, w64] at *; omega)), trivial⟩) (by first | omega | (simp (disch := omega) only [w32_id, w64_id]; omega) | (simp (disch := omega) only [w32_id, w64_id] at *; omega) | (simp only [w32, w64] at *; omega) | exact (and32_le (by omega) (by omega)).1 | exact (and32_le (by omega) (by omega)).2 | exact (mulR (by omega) (by omega) (by omega) (by omega)).1 | exact (mulR (by omega) (by omega) (by omega) (by omega)).2 | (subst_vars; simp [upZ] at *; omega) | (subst_vars; simp [upZ] at *; simp only [w32, w64] at *; omega))))
            | ((fail_if_success (first | (with_reducible show _ ≤ _) | (with_reducible show _ = _) | (with_reducible show _ ∨ _) | (with_reducible show _ < _) | (with_reducible show G _ _ _ _))); exact Exists.intro _ (Exists.intro _ ⟨rfl, rfl, by assumption, by assumption, by (first | omega | (simp (disch := omega) only [w32_id, w64_id]; omega) | (simp (disch := omega) only [w32_id, w64_id] at *; omega) | (simp only [w32, w64] at *; omega) | exact (and32_le (by omega) (by omega)).1 | exact (and32_le (by omega) (by omega)).2 | exact (mulR (by omega) (by omega) (by omega) (by omega)).1 | exact (mulR (by omega) (by omega) (by omega) (by omega)).2 | (subst_vars; simp [upZ] at *; omega) | (subst_vars; simp [upZ] at *; simp only [w32, w64] at *; omega)), by (first | omega | (simp (disch := omega) only [w32_id, w64_id]; omega) | (simp (disch := omega) only [w32_id, w64_id] at *; omega) | (simp only [w32, w64] at *; omega) | exact (and32_le (by omega) (by omega)).1 | exact (and32_le (by omega) (by omega)).2 | exact (mulR (by omega) (by omega) (by omega) (by omega)).1 | exact (mulR (by omega) (by omega) (by omega) (by omega)).2 | (subst_vars; simp [upZ] at *; omega) | (subst_vars; simp [upZ] at *; simp only [w32, w64] at *; omega))⟩))
            | ((fail_if_success (first | (with_reducible show _ ≤ _) | (with_reducible show _ = _) | (with_reducible show _ ∨ _) | (with_reducible show _ < _) | (with_reducible show G _ _ _ _))); exact Exists.intro _ (Exists.intro _ ⟨rfl, rfl, by assumption, by assumption⟩))
            | ((fail_if_success (first | (with_reducible show _ ≤ _) | (with_reducible show _ = _) | (with_reducible show _ ∨ _) | (with_reducible show _ < _) | (with_reducible show G _ _ _ _))); exact Exists.intro _ ⟨rfl, rfl, by assumption, by assumption⟩)
            | ((fail_if_success (first | (with_reducible show _ ≤ _) | (with_reducible show _ = _) | (with_reducible show _ ∨ _) | (with_reducible show _ < _) | (with_reducible show G _ _ _ _))); exact Or.inl (Exists.intro _ ⟨rfl, rfl, by assumption, by assumption⟩))
            | ((fail_if_success (first | (with_reducible show _ ≤ _) | (with_reducible show _ = _) | (with_reducible show _ ∨ _) | (with_reducible show _ < _) | (with_reducible show G _ _ _ _))); exact Or.inr (Exists.intro _ ⟨rfl, rfl, by assumption, by assumption⟩))
            | omega
            | rfl
            | exact trivial
            | decide
            | (show (0 : Int) < _; omega)
            | (show (0 : Int) < _; simp only [w64] at *; omega)
            | (simp only [w32, w64] at *; omega)
            | (first | omega | (simp (disch := omega) only [w32_id, w64_id]; omega) | (simp (disch := omega) only [w32_id, w64_id] at *; omega) | (simp only [w32, w64] at *; omega) | exact (and32_le (by omega) (by omega)).1 | exact (and32_le (by omega) (by omega)).2 | exact (mulR (by omega) (by omega) (by omega) (by omega)).1 | exact (mulR (by omega) (by omega) (by omega) (by omega)).2 | (subst_vars; simp [upZ] at *; omega) | (subst_vars; simp [upZ] at *; simp only [w32, w64] at *; omega))
            | skip
    refine wq_run hG n R0 [7] 900 _ _ _ _ ?_
    repeat' (first
        | with_reducible rfl
        | refine And.intro ?_ ?_
        | with_reducible exact True.intro
        | ((with_reducible show _ = true); rfl)
        | ((with_reducible show recvG _ _); rfl)
        | ((with_reducible show CI _); first | with_reducible assumption | assumption)
        | (fail_if_success (first | (with_reducible show _ ≤ _) | (with_reducible show _ = _) | (with_reducible show _ ∨ _) | (with_reducible show _ < _) | (with_reducible show G _ _ _ _))
           first
           | show G _ _ _ _
           | (intro (Z2 : ZT) hZ2; have hZ3 : Z' = Z2 := hZ2.symm; subst hZ3)
           | (intro (Z2 : ZT) hZ2; have hZ3 : Z1 = Z2 := hZ2.symm; subst hZ3)
           | (intro (Z2 : ZT) hZ2; have hZ3 : Z = Z2 := hZ2.symm; subst hZ3)
           | (refine ld_bnd (by first | with_reducible assumption | assumption) rfl ?_; intro _ _ _ _)
           | (refine st_bnd (by first | with_reducible assumption | assumption) (by first | with_reducible assumption | assumption) (by decide) (fun lo hi hb => by first | (cases hb; done) | (cases hb; constructor <;> (first | omega | (simp (disch := omega) only [w32_id, w64_id]; omega) | (simp (disch := omega) only [w32_id, w64_id] at *; omega) | (simp only [w32, w64] at *; omega) | exact (and32_le (by omega) (by omega)).1 | exact (and32_le (by omega) (by omega)).2 | exact (mulR (by omega) (by omega) (by omega) (by omega)).1 | exact (mulR (by omega) (by omega) (by omega) (by omega)).2 | (subst_vars; simp [upZ] at *; omega) | (subst_vars; simp [upZ] at *; simp only [w32, w64] at *; omega)))) ?_; intro Z' _ _ _)
           | (intro (r : Option PV) σ' hq
              first
              | (obtain ⟨rfl, rfl⟩ := hq)
              | (obtain ⟨Z', x, rfl, rfl, hI2, hk2, hl2, hu2⟩ := hq; have hk3 := keeps_to (by first | with_reducible assumption | assumption) (by rfl) hk2; clear hk2)
              | (obtain ⟨Z', x, rfl, rfl, hI2, hk2⟩ := hq; have hk3 := keeps_to (by first | with_reducible assumption | assumption) (by rfl) hk2; clear hk2)
              | (rcases hq with ⟨Z', rfl, rfl, hI2, hk2⟩ | ⟨Z', rfl, rfl, hI2, hk2⟩ <;> (have hk3 := keeps_to (by first | with_reducible assumption | assumption) (by rfl) hk2; clear hk2))
              | (obtain ⟨Z', rfl, rfl, hI2, hk2⟩ := hq; have hk3 := keeps_to (by first | with_reducible assumption | assumption) (by rfl) hk2; clear hk2))
           | (intro hc; (try simp only [cmp3_c] at hc); simp only [cmpI] at hc)
           | (show CI _; assumption)
           | intro (_ : Int)
           | intro (Z' : ZT)
           | intro (_ : CI _)
           | intro (_ : keeps _ _ _)
           | intro (_ : _ ≤ _)
           | intro (_ : _ = _)
           | intro (_ : _ < _)
           | intro (_ : _ ∨ _)))
    all_goals (have lp7 := loop 1000000)
    all_goals first
      | with_reducible rfl
      | ((with_reducible show _ = _); rfl)
      | ((with_reducible show recvG _ _); rfl)
      | with_reducible exact trivial
      | ((fail_if_success (first | (with_reducible show _ ≤ _) | (with_reducible show _ = _) | (with_reducible show _ ∨ _) | (with_reducible show _ < _) | (with_reducible show G _ _ _ _))); (refine Exists.intro _ (And.intro rfl (And.intro rfl (And.intro ?_ ?_)))) <;> with_reducible assumption)
      | ((with_reducible show G 7 _ _ _); exact hG.2 7 _ [(0, vr 95), (1, vi _)] _ _ rfl (lp7 _ _ (by assumption) (by assumption) (by refine ⟨by first | omega | (refine ⟨?_, ?_⟩ <;> (first | omega | (simp (disch := omega) only [w32_id, w64_id]; omega) | (simp (disch := omega) only [w32_id, w64_id] at *; omega) | (simp only [w32, w64] at *; omega) | exact (and32_le (by omega) (by omega)).1 | exact (and32_le (by omega) (by omega)).2 | exact (mulR (by omega) (by omega) (by omega) (by omega)).1 | exact (mulR (by omega) (by omega) (by omega) (by omega)).2 | (subst_vars; simp [upZ] at *; omega) | (subst_vars; simp [upZ] at *; simp only [w32, w64] at *; omega))) | (first | omega | (simp (disch := omega) only [w32_id, w64_id]; omega) | (simp (disch := omega) only [w32_id, w64_id] at *; omega) | (simp only [w32, w64] at *; omega) | exact (and32_le (by omega) (by omega)).1 | exact (and32_le (by omega) (by omega)).2 | exact (mulR (by omega) (by omega) (by omega) (by omega)).1 | exact (mulR (by omega) (by omega) (by omega) (by omega)).2 | (subst_vars; simp [upZ] at *; omega) | (subst_vars; simp [upZ] at *; simp only [w32, w64] at *; omega)), trivial⟩) (by first | omega | (simp (disch := omega) only [w32_id, w64_id]; omega) | (simp (disch := omega) only [w32_id, w64_id] at *; omega) | (simp only [w32, w64] at *; omega) | exact (and32_le (by omega) (by omega)).1 | exact (and32_le (by omega) (by omega)).2 | exact (mulR (by omega) (by omega) (by omega) (by omega)).1 | exact (mulR (by omega) (by omega) (by omega) (by omega)).2 | (subst_vars; simp [upZ] at *; omega) | (subst_vars; simp [upZ] at *; simp only [w32, w64] at *; omega))))
      | ((fail_if_success (first | (with_reducible show _ ≤ _) | (with_reducible show _ = _) | (with_reducible show _ ∨ _) | (with_reducible show _ < _) | (with_reducible show G _ _ _ _))); exact Exists.intro _ (Exists.intro _ ⟨rfl, rfl, by assumption, by assumption, by (first | omega | (simp (disch := omega) only [w32_id, w64_id]; omega) | (simp (disch := omega) only [w32_id, w64_id] at *; omega) | (simp only [w32, w64] at *; omega) | exact (and32_le (by omega) (by omega)).1 | exact (and32_le (by omega) (by omega)).2 | exact (mulR (by omega) (by omega) (by omega) (by omega)).1 | exact (mulR (by omega) (by omega) (by omega) (by omega)).2 | (subst_vars; simp [upZ] at *; omega) | (subst_vars; simp [upZ] at *; simp only [w32, w64] at *; omega)), by (first | omega | (simp (disch := omega) only [w32_id, w64_id]; omega) | (simp (disch := omega) only [w32_id, w64_id] at *; omega) | (simp only [w32, w64] at *; omega) | exact (and32_le (by omega) (by omega)).1 | exact (and32_le (by omega) (by omega)).2 | exact (mulR (by omega) (by omega) (by omega) (by omega)).1 | exact (mulR (by omega) (by omega) (by omega) (by omega)).2 | (subst_vars; simp [upZ] at *; omega) | (subst_vars; simp [upZ] at *; simp only [w32, w64] at *; omega))⟩))
      | ((fail_if_success (first | (with_reducible show _ ≤ _) | (with_reducible show _ = _) | (with_reducible show _ ∨ _) | (with_reducible show _ < _) | (with_reducible show G _ _ _ _))); exact Exists.intro _ (Exists.intro _ ⟨rfl, rfl, by assumption, by assumption⟩))
      | ((fail_if_success (first | (with_reducible show _ ≤ _) | (with_reducible show _ = _) | (with_reducible show _ ∨ _) | (with_reducible show _ < _) | (with_reducible show G _ _ _ _))); exact Exists.intro _ ⟨rfl, rfl, by assumption, by assumption⟩)
      | ((fail_if_success (first | (with_reducible show _ ≤ _) | (with_reducible show _ = _) | (with_reducible show _ ∨ _) | (with_reducible show _ < _) | (with_reducible show G _ _ _ _))); exact Or.inl (Exists.intro _ ⟨rfl, rfl, by assumption, by assumption⟩))
      | ((fail_if_success (first | (with_reducible show _ ≤ _) | (with_reducible show _ = _) | (with_reducible show _ ∨ _) | (with_reducible show _ < _) | (with_reducible show G _ _ _ _))); exact Or.inr (Exists.intro _ ⟨rfl, rfl, by assumption, by assumption⟩))
      | omega
      | rfl
      | exact trivial
      | decide
      | (show (0 : Int) < _; omega)
      | (show (0 : Int) < _; simp only [w64] at *; omega)
      | (simp only [w32, w64] at *; omega)
      | (first | omega | (simp (disch := omega) only [w32_id, w64_id]; omega) | (simp (disch := omega) only [w32_id, w64_id] at *; omega) | (simp only [w32, w64] at *; omega) | exact (and32_le (by omega) (by omega)).1 | exact (and32_le (by omega) (by omega)).2 | exact (mulR (by omega) (by omega) (by omega) (by omega)).1 | exact (mulR (by omega) (by omega) (by omega) (by omega)).2 | (subst_vars; simp [upZ] at *; omega) | (subst_vars; simp [upZ] at *; simp only [w32, w64] at *; omega))
      | skip
def s_X0_rowSum : Sp := wspL 5 0 (fun as Z => match as with
    | [.inr (.inr a0), .inr (.inr a1), .inl a2, .inl a3, .inl a4] => (((a0 = 70 ∧ a1 = 2) ∨ (a0 = 72 ∧ a1 = 2))) ∧ (True) ∧ (True) ∧ (True) ∧ (True) ∧ True
    | _ => False) (fun as => match as with
    | [.inr (.inr a0), .inr (.inr a1), .inl a2, .inl a3, .inl a4] => []
    | _ => [])
set_option maxRecDepth 100000 in
set_option maxHeartbeats 40000000 in
theorem c_X0_rowSum {l : Launch} {D : va_G} {cA : Nat → ClassId} : PM l D cA yX0_rowSum cX0_rowSum 8 (some .long) 2 48 s_X0_rowSum := by
  refine of_X0_rowSum (c_X0_counted) ⟨rfl, rfl⟩ (fun as σ hwf hao hpre => ?_)
  obtain ⟨n, Z, R⟩ := σ
  obtain ⟨hR, hI, hpre⟩ := hpre
  obtain rfl : R = R0 := hR
  rcases as with _ | ⟨x | x | a0, _ | ⟨x | x | a1, _ | ⟨a2 | x | x, _ | ⟨a3 | x | x, _ | ⟨a4 | x | x, _ | ⟨v, t⟩⟩⟩⟩⟩⟩ <;> first | exact (hpre : False).elim | skip
  obtain ⟨k2l, k2u⟩ : okI a2 := hao (vi a2) (by simp)
  obtain ⟨k3l, k3u⟩ : okI a3 := hao (vi a3) (by simp)
  obtain ⟨k4l, k4u⟩ : okI a4 := hao (vi a4) (by simp)
  obtain ⟨h0, h1, h2, h3, h4, -⟩ := hpre
  have hk : keeps ([]) Z Z := keeps_refl
  refine ⟨Nat.le_of_ble_eq_true rfl, fun G hG => ?_⟩
  clear hao hwf
  rcases h0 with ⟨rfl, rfl⟩ | ⟨rfl, rfl⟩
  · have loop : ∀ fuel : Nat, (∀ (Z1 : ZT) (v5 : Int) (v7 : Int), CI Z1 → keeps ([]) Z Z1 → ((0 ≤ v7 ∧ v7 ≤ 6) ∧ True) → 7 - v7 ≤ (fuel : Int) → G 6 [(0, vr 70), (1, vr 2), (2, vi a2), (3, vi a3), (4, vi a4), (5, vl v5), (7, vi v7)] [] (n, Z1, R0)) := by
      intro fuel
      induction fuel with
      | zero => exact (by intros; omega)
      | succ fuel ih =>
        have ih6 := ih
        · intro Z1 v5 v7 hI1 hk1 hv hm
          obtain ⟨w0, -⟩ := hv
          clear hk hI
          refine wq_run hG n R0 [6] 900 _ _ _ _ ?_
          repeat' (first
              | with_reducible rfl
              | refine And.intro ?_ ?_
              | with_reducible exact True.intro
              | ((with_reducible show _ = true); rfl)
              | ((with_reducible show recvG _ _); rfl)
              | ((with_reducible show CI _); first | with_reducible assumption | assumption)
              | (fail_if_success (first | (with_reducible show _ ≤ _) | (with_reducible show _ = _) | (with_reducible show _ ∨ _) | (with_reducible show _ < _) | (with_reducible show G _ _ _ _))
                 first
                 | show G _ _ _ _
                 | (intro (Z2 : ZT) hZ2; have hZ3 : Z' = Z2 := hZ2.symm; subst hZ3)
                 | (intro (Z2 : ZT) hZ2; have hZ3 : Z1 = Z2 := hZ2.symm; subst hZ3)
                 | (intro (Z2 : ZT) hZ2; have hZ3 : Z = Z2 := hZ2.symm; subst hZ3)
                 | (refine ld_bnd (by first | with_reducible assumption | assumption) rfl ?_; intro _ _ _ _)
                 | (refine st_bnd (by first | with_reducible assumption | assumption) (by first | with_reducible assumption | assumption) (by decide) (fun lo hi hb => by first | (cases hb; done) | (cases hb; constructor <;> (first | omega | (simp (disch := omega) only [w32_id, w64_id]; omega) | (simp (disch := omega) only [w32_id, w64_id] at *; omega) | (simp only [w32, w64] at *; omega) | exact (and32_le (by omega) (by omega)).1 | exact (and32_le (by omega) (by omega)).2 | exact (mulR (by omega) (by omega) (by omega) (by omega)).1 | exact (mulR (by omega) (by omega) (by omega) (by omega)).2 | (subst_vars; simp [upZ] at *; omega) | (subst_vars; simp [upZ] at *; simp only [w32, w64] at *; omega)))) ?_; intro Z' _ _ _)
                 | (intro (r : Option PV) σ' hq
                    first
                    | (obtain ⟨rfl, rfl⟩ := hq)
                    | (obtain ⟨Z', x, rfl, rfl, hI2, hk2, hl2, hu2⟩ := hq; have hk3 := keeps_to (by first | with_reducible assumption | assumption) (by rfl) hk2; clear hk2)
                    | (obtain ⟨Z', x, rfl, rfl, hI2, hk2⟩ := hq; have hk3 := keeps_to (by first | with_reducible assumption | assumption) (by rfl) hk2; clear hk2)
                    | (rcases hq with ⟨Z', rfl, rfl, hI2, hk2⟩ | ⟨Z', rfl, rfl, hI2, hk2⟩ <;> (have hk3 := keeps_to (by first | with_reducible assumption | assumption) (by rfl) hk2; clear hk2))
                    | (obtain ⟨Z', rfl, rfl, hI2, hk2⟩ := hq; have hk3 := keeps_to (by first | with_reducible assumption | assumption) (by rfl) hk2; clear hk2))
                 | (intro hc; (try simp only [cmp3_c] at hc); simp only [cmpI] at hc)
                 | (show CI _; assumption)
                 | intro (_ : Int)
                 | intro (Z' : ZT)
                 | intro (_ : CI _)
                 | intro (_ : keeps _ _ _)
                 | intro (_ : _ ≤ _)
                 | intro (_ : _ = _)
                 | intro (_ : _ < _)
                 | intro (_ : _ ∨ _)))
          all_goals first
            | with_reducible rfl
            | ((with_reducible show _ = _); rfl)
            | ((with_reducible show recvG _ _); rfl)
            | with_reducible exact trivial
            | ((fail_if_success (first | (with_reducible show _ ≤ _) | (with_reducible show _ = _) | (with_reducible show _ ∨ _) | (with_reducible show _ < _) | (with_reducible show G _ _ _ _))); (refine Exists.intro _ (And.intro rfl (And.intro rfl (And.intro ?_ ?_)))) <;> with_reducible assumption)
            | ((with_reducible show G 6 _ _ _); exact hG.2 6 _ [(0, vr 70), (1, vr 2), (2, vi a2), (3, vi a3), (4, vi a4), (5, vl _), (7, vi _)] _ _ rfl (ih6 _ _ _ (by assumption) (by assumption) (by refine ⟨by first | omega | (refine ⟨?_, ?_⟩ <;> (first | omega | (simp (disch := omega) only [w32_id, w64_id]; omega) | (simp (disch := omega) only [w32_id, w64_id] at *; omega) | (simp only [w32, w64] at *; omega) | exact (and32_le (by omega) (by omega)).1 | exact (and32_le (by omega) (by omega)).2 | exact (mulR (by omega) (by omega) (by omega) (by omega)).1 | exact (mulR (by omega) (by omega) (by omega) (by omega)).2 | (subst_vars; simp [upZ] at *; omega) | (subst_vars; simp [upZ] at *; simp only [w32, w64] at *; omega))) | (first | omega | (simp (disch := omega) only [w32_id, w64_id]; omega) | (simp (disch := omega) only [w32_id, w64_id] at *; omega) | (simp only [w32, w64] at *; omega) | exact (and32_le (by omega) (by omega)).1 | exact (and32_le (by omega) (by omega)).2 | exact (mulR (by omega) (by omega) (by omega) (by omega)).1 | exact (mulR (by omega) (by omega) (by omega) (by omega)).2 | (subst_vars; simp [upZ] at *; omega) | (subst_vars; simp [upZ] at *; simp only [w32, w64] at *; omega)), trivial⟩) (by first | omega | (simp (disch := omega) only [w32_id, w64_id]; omega) | (simp (disch := omega) only [w32_id, w64_id] at *; omega) | (simp only [w32, w64] at *; omega) | exact (and32_le (by omega) (by omega)).1 | exact (and32_le (by omega) (by omega)).2 | exact (mulR (by omega) (by omega) (by omega) (by omega)).1 | exact (mulR (by omega) (by omega) (by omega) (by omega)).2 | (subst_vars; simp [upZ] at *; omega) | (subst_vars; simp [upZ] at *; simp only [w32, w64] at *; omega))))
            | ((fail_if_success (first | (with_reducible show _ ≤ _) | (with_reducible show _ = _) | (with_reducible show _ ∨ _) | (with_reducible show _ < _) | (with_reducible show G _ _ _ _))); exact Exists.intro _ (Exists.intro _ ⟨rfl, rfl, by assumption, by assumption, by (first | omega | (simp (disch := omega) only [w32_id, w64_id]; omega) | (simp (disch := omega) only [w32_id, w64_id] at *; omega) | (simp only [w32, w64] at *; omega) | exact (and32_le (by omega) (by omega)).1 | exact (and32_le (by omega) (by omega)).2 | exact (mulR (by omega) (by omega) (by omega) (by omega)).1 | exact (mulR (by omega) (by omega) (by omega) (by omega)).2 | (subst_vars; simp [upZ] at *; omega) | (subst_vars; simp [upZ] at *; simp only [w32, w64] at *; omega)), by (first | omega | (simp (disch := omega) only [w32_id, w64_id]; omega) | (simp (disch := omega) only [w32_id, w64_id] at *; omega) | (simp only [w32, w64] at *; omega) | exact (and32_le (by omega) (by omega)).1 | exact (and32_le (by omega) (by omega)).2 | exact (mulR (by omega) (by omega) (by omega) (by omega)).1 | exact (mulR (by omega) (by omega) (by omega) (by omega)).2 | (subst_vars; simp [upZ] at *; omega) | (subst_vars; simp [upZ] at *; simp only [w32, w64] at *; omega))⟩))
            | ((fail_if_success (first | (with_reducible show _ ≤ _) | (with_reducible show _ = _) | (with_reducible show _ ∨ _) | (with_reducible show _ < _) | (with_reducible show G _ _ _ _))); exact Exists.intro _ (Exists.intro _ ⟨rfl, rfl, by assumption, by assumption⟩))
            | ((fail_if_success (first | (with_reducible show _ ≤ _) | (with_reducible show _ = _) | (with_reducible show _ ∨ _) | (with_reducible show _ < _) | (with_reducible show G _ _ _ _))); exact Exists.intro _ ⟨rfl, rfl, by assumption, by assumption⟩)
            | ((fail_if_success (first | (with_reducible show _ ≤ _) | (with_reducible show _ = _) | (with_reducible show _ ∨ _) | (with_reducible show _ < _) | (with_reducible show G _ _ _ _))); exact Or.inl (Exists.intro _ ⟨rfl, rfl, by assumption, by assumption⟩))
            | ((fail_if_success (first | (with_reducible show _ ≤ _) | (with_reducible show _ = _) | (with_reducible show _ ∨ _) | (with_reducible show _ < _) | (with_reducible show G _ _ _ _))); exact Or.inr (Exists.intro _ ⟨rfl, rfl, by assumption, by assumption⟩))
            | omega
            | rfl
            | exact trivial
            | decide
            | (show (0 : Int) < _; omega)
            | (show (0 : Int) < _; simp only [w64] at *; omega)
            | (simp only [w32, w64] at *; omega)
            | (first | omega | (simp (disch := omega) only [w32_id, w64_id]; omega) | (simp (disch := omega) only [w32_id, w64_id] at *; omega) | (simp only [w32, w64] at *; omega) | exact (and32_le (by omega) (by omega)).1 | exact (and32_le (by omega) (by omega)).2 | exact (mulR (by omega) (by omega) (by omega) (by omega)).1 | exact (mulR (by omega) (by omega) (by omega) (by omega)).2 | (subst_vars; simp [upZ] at *; omega) | (subst_vars; simp [upZ] at *; simp only [w32, w64] at *; omega))
            | skip
    refine wq_run hG n R0 [6] 900 _ _ _ _ ?_
    repeat' (first
        | with_reducible rfl
        | refine And.intro ?_ ?_
        | with_reducible exact True.intro
        | ((with_reducible show _ = true); rfl)
        | ((with_reducible show recvG _ _); rfl)
        | ((with_reducible show CI _); first | with_reducible assumption | assumption)
        | (fail_if_success (first | (with_reducible show _ ≤ _) | (with_reducible show _ = _) | (with_reducible show _ ∨ _) | (with_reducible show _ < _) | (with_reducible show G _ _ _ _))
           first
           | show G _ _ _ _
           | (intro (Z2 : ZT) hZ2; have hZ3 : Z' = Z2 := hZ2.symm; subst hZ3)
           | (intro (Z2 : ZT) hZ2; have hZ3 : Z1 = Z2 := hZ2.symm; subst hZ3)
           | (intro (Z2 : ZT) hZ2; have hZ3 : Z = Z2 := hZ2.symm; subst hZ3)
           | (refine ld_bnd (by first | with_reducible assumption | assumption) rfl ?_; intro _ _ _ _)
           | (refine st_bnd (by first | with_reducible assumption | assumption) (by first | with_reducible assumption | assumption) (by decide) (fun lo hi hb => by first | (cases hb; done) | (cases hb; constructor <;> (first | omega | (simp (disch := omega) only [w32_id, w64_id]; omega) | (simp (disch := omega) only [w32_id, w64_id] at *; omega) | (simp only [w32, w64] at *; omega) | exact (and32_le (by omega) (by omega)).1 | exact (and32_le (by omega) (by omega)).2 | exact (mulR (by omega) (by omega) (by omega) (by omega)).1 | exact (mulR (by omega) (by omega) (by omega) (by omega)).2 | (subst_vars; simp [upZ] at *; omega) | (subst_vars; simp [upZ] at *; simp only [w32, w64] at *; omega)))) ?_; intro Z' _ _ _)
           | (intro (r : Option PV) σ' hq
              first
              | (obtain ⟨rfl, rfl⟩ := hq)
              | (obtain ⟨Z', x, rfl, rfl, hI2, hk2, hl2, hu2⟩ := hq; have hk3 := keeps_to (by first | with_reducible assumption | assumption) (by rfl) hk2; clear hk2)
              | (obtain ⟨Z', x, rfl, rfl, hI2, hk2⟩ := hq; have hk3 := keeps_to (by first | with_reducible assumption | assumption) (by rfl) hk2; clear hk2)
              | (rcases hq with ⟨Z', rfl, rfl, hI2, hk2⟩ | ⟨Z', rfl, rfl, hI2, hk2⟩ <;> (have hk3 := keeps_to (by first | with_reducible assumption | assumption) (by rfl) hk2; clear hk2))
              | (obtain ⟨Z', rfl, rfl, hI2, hk2⟩ := hq; have hk3 := keeps_to (by first | with_reducible assumption | assumption) (by rfl) hk2; clear hk2))
           | (intro hc; (try simp only [cmp3_c] at hc); simp only [cmpI] at hc)
           | (show CI _; assumption)
           | intro (_ : Int)
           | intro (Z' : ZT)
           | intro (_ : CI _)
           | intro (_ : keeps _ _ _)
           | intro (_ : _ ≤ _)
           | intro (_ : _ = _)
           | intro (_ : _ < _)
           | intro (_ : _ ∨ _)))
    all_goals (have lp6 := loop 1000000)
    all_goals first
      | with_reducible rfl
      | ((with_reducible show _ = _); rfl)
      | ((with_reducible show recvG _ _); rfl)
      | with_reducible exact trivial
      | ((fail_if_success (first | (with_reducible show _ ≤ _) | (with_reducible show _ = _) | (with_reducible show _ ∨ _) | (with_reducible show _ < _) | (with_reducible show G _ _ _ _))); (refine Exists.intro _ (And.intro rfl (And.intro rfl (And.intro ?_ ?_)))) <;> with_reducible assumption)
      | ((with_reducible show G 6 _ _ _); exact hG.2 6 _ [(0, vr 70), (1, vr 2), (2, vi a2), (3, vi a3), (4, vi a4), (5, vl _), (7, vi _)] _ _ rfl (lp6 _ _ _ (by assumption) (by assumption) (by refine ⟨by first | omega | (refine ⟨?_, ?_⟩ <;> (first | omega | (simp (disch := omega) only [w32_id, w64_id]; omega) | (simp (disch := omega) only [w32_id, w64_id] at *; omega) | (simp only [w32, w64] at *; omega) | exact (and32_le (by omega) (by omega)).1 | exact (and32_le (by omega) (by omega)).2 | exact (mulR (by omega) (by omega) (by omega) (by omega)).1 | exact (mulR (by omega) (by omega) (by omega) (by omega)).2 | (subst_vars; simp [upZ] at *; omega) | (subst_vars; simp [upZ] at *; simp only [w32, w64] at *; omega))) | (first | omega | (simp (disch := omega) only [w32_id, w64_id]; omega) | (simp (disch := omega) only [w32_id, w64_id] at *; omega) | (simp only [w32, w64] at *; omega) | exact (and32_le (by omega) (by omega)).1 | exact (and32_le (by omega) (by omega)).2 | exact (mulR (by omega) (by omega) (by omega) (by omega)).1 | exact (mulR (by omega) (by omega) (by omega) (by omega)).2 | (subst_vars; simp [upZ] at *; omega) | (subst_vars; simp [upZ] at *; simp only [w32, w64] at *; omega)), trivial⟩) (by first | omega | (simp (disch := omega) only [w32_id, w64_id]; omega) | (simp (disch := omega) only [w32_id, w64_id] at *; omega) | (simp only [w32, w64] at *; omega) | exact (and32_le (by omega) (by omega)).1 | exact (and32_le (by omega) (by omega)).2 | exact (mulR (by omega) (by omega) (by omega) (by omega)).1 | exact (mulR (by omega) (by omega) (by omega) (by omega)).2 | (subst_vars; simp [upZ] at *; omega) | (subst_vars; simp [upZ] at *; simp only [w32, w64] at *; omega))))
      | ((fail_if_success (first | (with_reducible show _ ≤ _) | (with_reducible show _ = _) | (with_reducible show _ ∨ _) | (with_reducible show _ < _) | (with_reducible show G _ _ _ _))); exact Exists.intro _ (Exists.intro _ ⟨rfl, rfl, by assumption, by assumption, by (first | omega | (simp (disch := omega) only [w32_id, w64_id]; omega) | (simp (disch := omega) only [w32_id, w64_id] at *; omega) | (simp only [w32, w64] at *; omega) | exact (and32_le (by omega) (by omega)).1 | exact (and32_le (by omega) (by omega)).2 | exact (mulR (by omega) (by omega) (by omega) (by omega)).1 | exact (mulR (by omega) (by omega) (by omega) (by omega)).2 | (subst_vars; simp [upZ] at *; omega) | (subst_vars; simp [upZ] at *; simp only [w32, w64] at *; omega)), by (first | omega | (simp (disch := omega) only [w32_id, w64_id]; omega) | (simp (disch := omega) only [w32_id, w64_id] at *; omega) | (simp only [w32, w64] at *; omega) | exact (and32_le (by omega) (by omega)).1 | exact (and32_le (by omega) (by omega)).2 | exact (mulR (by omega) (by omega) (by omega) (by omega)).1 | exact (mulR (by omega) (by omega) (by omega) (by omega)).2 | (subst_vars; simp [upZ] at *; omega) | (subst_vars; simp [upZ] at *; simp only [w32, w64] at *; omega))⟩))
      | ((fail_if_success (first | (with_reducible show _ ≤ _) | (with_reducible show _ = _) | (with_reducible show _ ∨ _) | (with_reducible show _ < _) | (with_reducible show G _ _ _ _))); exact Exists.intro _ (Exists.intro _ ⟨rfl, rfl, by assumption, by assumption⟩))
      | ((fail_if_success (first | (with_reducible show _ ≤ _) | (with_reducible show _ = _) | (with_reducible show _ ∨ _) | (with_reducible show _ < _) | (with_reducible show G _ _ _ _))); exact Exists.intro _ ⟨rfl, rfl, by assumption, by assumption⟩)
      | ((fail_if_success (first | (with_reducible show _ ≤ _) | (with_reducible show _ = _) | (with_reducible show _ ∨ _) | (with_reducible show _ < _) | (with_reducible show G _ _ _ _))); exact Or.inl (Exists.intro _ ⟨rfl, rfl, by assumption, by assumption⟩))
      | ((fail_if_success (first | (with_reducible show _ ≤ _) | (with_reducible show _ = _) | (with_reducible show _ ∨ _) | (with_reducible show _ < _) | (with_reducible show G _ _ _ _))); exact Or.inr (Exists.intro _ ⟨rfl, rfl, by assumption, by assumption⟩))
      | omega
      | rfl
      | exact trivial
      | decide
      | (show (0 : Int) < _; omega)
      | (show (0 : Int) < _; simp only [w64] at *; omega)
      | (simp only [w32, w64] at *; omega)
      | (first | omega | (simp (disch := omega) only [w32_id, w64_id]; omega) | (simp (disch := omega) only [w32_id, w64_id] at *; omega) | (simp only [w32, w64] at *; omega) | exact (and32_le (by omega) (by omega)).1 | exact (and32_le (by omega) (by omega)).2 | exact (mulR (by omega) (by omega) (by omega) (by omega)).1 | exact (mulR (by omega) (by omega) (by omega) (by omega)).2 | (subst_vars; simp [upZ] at *; omega) | (subst_vars; simp [upZ] at *; simp only [w32, w64] at *; omega))
      | skip
  · have loop : ∀ fuel : Nat, (∀ (Z1 : ZT) (v5 : Int) (v7 : Int), CI Z1 → keeps ([]) Z Z1 → ((0 ≤ v7 ∧ v7 ≤ 6) ∧ True) → 7 - v7 ≤ (fuel : Int) → G 6 [(0, vr 72), (1, vr 2), (2, vi a2), (3, vi a3), (4, vi a4), (5, vl v5), (7, vi v7)] [] (n, Z1, R0)) := by
      intro fuel
      induction fuel with
      | zero => exact (by intros; omega)
      | succ fuel ih =>
        have ih6 := ih
        · intro Z1 v5 v7 hI1 hk1 hv hm
          obtain ⟨w0, -⟩ := hv
          clear hk hI
          refine wq_run hG n R0 [6] 900 _ _ _ _ ?_
          repeat' (first
              | with_reducible rfl
              | refine And.intro ?_ ?_
              | with_reducible exact True.intro
              | ((with_reducible show _ = true); rfl)
              | ((with_reducible show recvG _ _); rfl)
              | ((with_reducible show CI _); first | with_reducible assumption | assumption)
              | (fail_if_success (first | (with_reducible show _ ≤ _) | (with_reducible show _ = _) | (with_reducible show _ ∨ _) | (with_reducible show _ < _) | (with_reducible show G _ _ _ _))
                 first
                 | show G _ _ _ _
                 | (intro (Z2 : ZT) hZ2; have hZ3 : Z' = Z2 := hZ2.symm; subst hZ3)
                 | (intro (Z2 : ZT) hZ2; have hZ3 : Z1 = Z2 := hZ2.symm; subst hZ3)
                 | (intro (Z2 : ZT) hZ2; have hZ3 : Z = Z2 := hZ2.symm; subst hZ3)
                 | (refine ld_bnd (by first | with_reducible assumption | assumption) rfl ?_; intro _ _ _ _)
                 | (refine st_bnd (by first | with_reducible assumption | assumption) (by first | with_reducible assumption | assumption) (by decide) (fun lo hi hb => by first | (cases hb; done) | (cases hb; constructor <;> (first | omega | (simp (disch := omega) only [w32_id, w64_id]; omega) | (simp (disch := omega) only [w32_id, w64_id] at *; omega) | (simp only [w32, w64] at *; omega) | exact (and32_le (by omega) (by omega)).1 | exact (and32_le (by omega) (by omega)).2 | exact (mulR (by omega) (by omega) (by omega) (by omega)).1 | exact (mulR (by omega) (by omega) (by omega) (by omega)).2 | (subst_vars; simp [upZ] at *; omega) | (subst_vars; simp [upZ] at *; simp only [w32, w64] at *; omega)))) ?_; intro Z' _ _ _)
                 | (intro (r : Option PV) σ' hq
                    first
                    | (obtain ⟨rfl, rfl⟩ := hq)
                    | (obtain ⟨Z', x, rfl, rfl, hI2, hk2, hl2, hu2⟩ := hq; have hk3 := keeps_to (by first | with_reducible assumption | assumption) (by rfl) hk2; clear hk2)
                    | (obtain ⟨Z', x, rfl, rfl, hI2, hk2⟩ := hq; have hk3 := keeps_to (by first | with_reducible assumption | assumption) (by rfl) hk2; clear hk2)
                    | (rcases hq with ⟨Z', rfl, rfl, hI2, hk2⟩ | ⟨Z', rfl, rfl, hI2, hk2⟩ <;> (have hk3 := keeps_to (by first | with_reducible assumption | assumption) (by rfl) hk2; clear hk2))
                    | (obtain ⟨Z', rfl, rfl, hI2, hk2⟩ := hq; have hk3 := keeps_to (by first | with_reducible assumption | assumption) (by rfl) hk2; clear hk2))
                 | (intro hc; (try simp only [cmp3_c] at hc); simp only [cmpI] at hc)
                 | (show CI _; assumption)
                 | intro (_ : Int)
                 | intro (Z' : ZT)
                 | intro (_ : CI _)
                 | intro (_ : keeps _ _ _)
                 | intro (_ : _ ≤ _)
                 | intro (_ : _ = _)
                 | intro (_ : _ < _)
                 | intro (_ : _ ∨ _)))
          all_goals first
            | with_reducible rfl
            | ((with_reducible show _ = _); rfl)
            | ((with_reducible show recvG _ _); rfl)
            | with_reducible exact trivial
            | ((fail_if_success (first | (with_reducible show _ ≤ _) | (with_reducible show _ = _) | (with_reducible show _ ∨ _) | (with_reducible show _ < _) | (with_reducible show G _ _ _ _))); (refine Exists.intro _ (And.intro rfl (And.intro rfl (And.intro ?_ ?_)))) <;> with_reducible assumption)
            | ((with_reducible show G 6 _ _ _); exact hG.2 6 _ [(0, vr 72), (1, vr 2), (2, vi a2), (3, vi a3), (4, vi a4), (5, vl _), (7, vi _)] _ _ rfl (ih6 _ _ _ (by assumption) (by assumption) (by refine ⟨by first | omega | (refine ⟨?_, ?_⟩ <;> (first | omega | (simp (disch := omega) only [w32_id, w64_id]; omega) | (simp (disch := omega) only [w32_id, w64_id] at *; omega) | (simp only [w32, w64] at *; omega) | exact (and32_le (by omega) (by omega)).1 | exact (and32_le (by omega) (by omega)).2 | exact (mulR (by omega) (by omega) (by omega) (by omega)).1 | exact (mulR (by omega) (by omega) (by omega) (by omega)).2 | (subst_vars; simp [upZ] at *; omega) | (subst_vars; simp [upZ] at *; simp only [w32, w64] at *; omega))) | (first | omega | (simp (disch := omega) only [w32_id, w64_id]; omega) | (simp (disch := omega) only [w32_id, w64_id] at *; omega) | (simp only [w32, w64] at *; omega) | exact (and32_le (by omega) (by omega)).1 | exact (and32_le (by omega) (by omega)).2 | exact (mulR (by omega) (by omega) (by omega) (by omega)).1 | exact (mulR (by omega) (by omega) (by omega) (by omega)).2 | (subst_vars; simp [upZ] at *; omega) | (subst_vars; simp [upZ] at *; simp only [w32, w64] at *; omega)), trivial⟩) (by first | omega | (simp (disch := omega) only [w32_id, w64_id]; omega) | (simp (disch := omega) only [w32_id, w64_id] at *; omega) | (simp only [w32, w64] at *; omega) | exact (and32_le (by omega) (by omega)).1 | exact (and32_le (by omega) (by omega)).2 | exact (mulR (by omega) (by omega) (by omega) (by omega)).1 | exact (mulR (by omega) (by omega) (by omega) (by omega)).2 | (subst_vars; simp [upZ] at *; omega) | (subst_vars; simp [upZ] at *; simp only [w32, w64] at *; omega))))
            | ((fail_if_success (first | (with_reducible show _ ≤ _) | (with_reducible show _ = _) | (with_reducible show _ ∨ _) | (with_reducible show _ < _) | (with_reducible show G _ _ _ _))); exact Exists.intro _ (Exists.intro _ ⟨rfl, rfl, by assumption, by assumption, by (first | omega | (simp (disch := omega) only [w32_id, w64_id]; omega) | (simp (disch := omega) only [w32_id, w64_id] at *; omega) | (simp only [w32, w64] at *; omega) | exact (and32_le (by omega) (by omega)).1 | exact (and32_le (by omega) (by omega)).2 | exact (mulR (by omega) (by omega) (by omega) (by omega)).1 | exact (mulR (by omega) (by omega) (by omega) (by omega)).2 | (subst_vars; simp [upZ] at *; omega) | (subst_vars; simp [upZ] at *; simp only [w32, w64] at *; omega)), by (first | omega | (simp (disch := omega) only [w32_id, w64_id]; omega) | (simp (disch := omega) only [w32_id, w64_id] at *; omega) | (simp only [w32, w64] at *; omega) | exact (and32_le (by omega) (by omega)).1 | exact (and32_le (by omega) (by omega)).2 | exact (mulR (by omega) (by omega) (by omega) (by omega)).1 | exact (mulR (by omega) (by omega) (by omega) (by omega)).2 | (subst_vars; simp [upZ] at *; omega) | (subst_vars; simp [upZ] at *; simp only [w32, w64] at *; omega))⟩))
            | ((fail_if_success (first | (with_reducible show _ ≤ _) | (with_reducible show _ = _) | (with_reducible show _ ∨ _) | (with_reducible show _ < _) | (with_reducible show G _ _ _ _))); exact Exists.intro _ (Exists.intro _ ⟨rfl, rfl, by assumption, by assumption⟩))
            | ((fail_if_success (first | (with_reducible show _ ≤ _) | (with_reducible show _ = _) | (with_reducible show _ ∨ _) | (with_reducible show _ < _) | (with_reducible show G _ _ _ _))); exact Exists.intro _ ⟨rfl, rfl, by assumption, by assumption⟩)
            | ((fail_if_success (first | (with_reducible show _ ≤ _) | (with_reducible show _ = _) | (with_reducible show _ ∨ _) | (with_reducible show _ < _) | (with_reducible show G _ _ _ _))); exact Or.inl (Exists.intro _ ⟨rfl, rfl, by assumption, by assumption⟩))
            | ((fail_if_success (first | (with_reducible show _ ≤ _) | (with_reducible show _ = _) | (with_reducible show _ ∨ _) | (with_reducible show _ < _) | (with_reducible show G _ _ _ _))); exact Or.inr (Exists.intro _ ⟨rfl, rfl, by assumption, by assumption⟩))
            | omega
            | rfl
            | exact trivial
            | decide
            | (show (0 : Int) < _; omega)
            | (show (0 : Int) < _; simp only [w64] at *; omega)
            | (simp only [w32, w64] at *; omega)
            | (first | omega | (simp (disch := omega) only [w32_id, w64_id]; omega) | (simp (disch := omega) only [w32_id, w64_id] at *; omega) | (simp only [w32, w64] at *; omega) | exact (and32_le (by omega) (by omega)).1 | exact (and32_le (by omega) (by omega)).2 | exact (mulR (by omega) (by omega) (by omega) (by omega)).1 | exact (mulR (by omega) (by omega) (by omega) (by omega)).2 | (subst_vars; simp [upZ] at *; omega) | (subst_vars; simp [upZ] at *; simp only [w32, w64] at *; omega))
            | skip
    refine wq_run hG n R0 [6] 900 _ _ _ _ ?_
    repeat' (first
        | with_reducible rfl
        | refine And.intro ?_ ?_
        | with_reducible exact True.intro
        | ((with_reducible show _ = true); rfl)
        | ((with_reducible show recvG _ _); rfl)
        | ((with_reducible show CI _); first | with_reducible assumption | assumption)
        | (fail_if_success (first | (with_reducible show _ ≤ _) | (with_reducible show _ = _) | (with_reducible show _ ∨ _) | (with_reducible show _ < _) | (with_reducible show G _ _ _ _))
           first
           | show G _ _ _ _
           | (intro (Z2 : ZT) hZ2; have hZ3 : Z' = Z2 := hZ2.symm; subst hZ3)
           | (intro (Z2 : ZT) hZ2; have hZ3 : Z1 = Z2 := hZ2.symm; subst hZ3)
           | (intro (Z2 : ZT) hZ2; have hZ3 : Z = Z2 := hZ2.symm; subst hZ3)
           | (refine ld_bnd (by first | with_reducible assumption | assumption) rfl ?_; intro _ _ _ _)
           | (refine st_bnd (by first | with_reducible assumption | assumption) (by first | with_reducible assumption | assumption) (by decide) (fun lo hi hb => by first | (cases hb; done) | (cases hb; constructor <;> (first | omega | (simp (disch := omega) only [w32_id, w64_id]; omega) | (simp (disch := omega) only [w32_id, w64_id] at *; omega) | (simp only [w32, w64] at *; omega) | exact (and32_le (by omega) (by omega)).1 | exact (and32_le (by omega) (by omega)).2 | exact (mulR (by omega) (by omega) (by omega) (by omega)).1 | exact (mulR (by omega) (by omega) (by omega) (by omega)).2 | (subst_vars; simp [upZ] at *; omega) | (subst_vars; simp [upZ] at *; simp only [w32, w64] at *; omega)))) ?_; intro Z' _ _ _)
           | (intro (r : Option PV) σ' hq
              first
              | (obtain ⟨rfl, rfl⟩ := hq)
              | (obtain ⟨Z', x, rfl, rfl, hI2, hk2, hl2, hu2⟩ := hq; have hk3 := keeps_to (by first | with_reducible assumption | assumption) (by rfl) hk2; clear hk2)
              | (obtain ⟨Z', x, rfl, rfl, hI2, hk2⟩ := hq; have hk3 := keeps_to (by first | with_reducible assumption | assumption) (by rfl) hk2; clear hk2)
              | (rcases hq with ⟨Z', rfl, rfl, hI2, hk2⟩ | ⟨Z', rfl, rfl, hI2, hk2⟩ <;> (have hk3 := keeps_to (by first | with_reducible assumption | assumption) (by rfl) hk2; clear hk2))
              | (obtain ⟨Z', rfl, rfl, hI2, hk2⟩ := hq; have hk3 := keeps_to (by first | with_reducible assumption | assumption) (by rfl) hk2; clear hk2))
           | (intro hc; (try simp only [cmp3_c] at hc); simp only [cmpI] at hc)
           | (show CI _; assumption)
           | intro (_ : Int)
           | intro (Z' : ZT)
           | intro (_ : CI _)
           | intro (_ : keeps _ _ _)
           | intro (_ : _ ≤ _)
           | intro (_ : _ = _)
           | intro (_ : _ < _)
           | intro (_ : _ ∨ _)))
    all_goals (have lp6 := loop 1000000)
    all_goals first
      | with_reducible rfl
      | ((with_reducible show _ = _); rfl)
      | ((with_reducible show recvG _ _); rfl)
      | with_reducible exact trivial
      | ((fail_if_success (first | (with_reducible show _ ≤ _) | (with_reducible show _ = _) | (with_reducible show _ ∨ _) | (with_reducible show _ < _) | (with_reducible show G _ _ _ _))); (refine Exists.intro _ (And.intro rfl (And.intro rfl (And.intro ?_ ?_)))) <;> with_reducible assumption)
      | ((with_reducible show G 6 _ _ _); exact hG.2 6 _ [(0, vr 72), (1, vr 2), (2, vi a2), (3, vi a3), (4, vi a4), (5, vl _), (7, vi _)] _ _ rfl (lp6 _ _ _ (by assumption) (by assumption) (by refine ⟨by first | omega | (refine ⟨?_, ?_⟩ <;> (first | omega | (simp (disch := omega) only [w32_id, w64_id]; omega) | (simp (disch := omega) only [w32_id, w64_id] at *; omega) | (simp only [w32, w64] at *; omega) | exact (and32_le (by omega) (by omega)).1 | exact (and32_le (by omega) (by omega)).2 | exact (mulR (by omega) (by omega) (by omega) (by omega)).1 | exact (mulR (by omega) (by omega) (by omega) (by omega)).2 | (subst_vars; simp [upZ] at *; omega) | (subst_vars; simp [upZ] at *; simp only [w32, w64] at *; omega))) | (first | omega | (simp (disch := omega) only [w32_id, w64_id]; omega) | (simp (disch := omega) only [w32_id, w64_id] at *; omega) | (simp only [w32, w64] at *; omega) | exact (and32_le (by omega) (by omega)).1 | exact (and32_le (by omega) (by omega)).2 | exact (mulR (by omega) (by omega) (by omega) (by omega)).1 | exact (mulR (by omega) (by omega) (by omega) (by omega)).2 | (subst_vars; simp [upZ] at *; omega) | (subst_vars; simp [upZ] at *; simp only [w32, w64] at *; omega)), trivial⟩) (by first | omega | (simp (disch := omega) only [w32_id, w64_id]; omega) | (simp (disch := omega) only [w32_id, w64_id] at *; omega) | (simp only [w32, w64] at *; omega) | exact (and32_le (by omega) (by omega)).1 | exact (and32_le (by omega) (by omega)).2 | exact (mulR (by omega) (by omega) (by omega) (by omega)).1 | exact (mulR (by omega) (by omega) (by omega) (by omega)).2 | (subst_vars; simp [upZ] at *; omega) | (subst_vars; simp [upZ] at *; simp only [w32, w64] at *; omega))))
      | ((fail_if_success (first | (with_reducible show _ ≤ _) | (with_reducible show _ = _) | (with_reducible show _ ∨ _) | (with_reducible show _ < _) | (with_reducible show G _ _ _ _))); exact Exists.intro _ (Exists.intro _ ⟨rfl, rfl, by assumption, by assumption, by (first | omega | (simp (disch := omega) only [w32_id, w64_id]; omega) | (simp (disch := omega) only [w32_id, w64_id] at *; omega) | (simp only [w32, w64] at *; omega) | exact (and32_le (by omega) (by omega)).1 | exact (and32_le (by omega) (by omega)).2 | exact (mulR (by omega) (by omega) (by omega) (by omega)).1 | exact (mulR (by omega) (by omega) (by omega) (by omega)).2 | (subst_vars; simp [upZ] at *; omega) | (subst_vars; simp [upZ] at *; simp only [w32, w64] at *; omega)), by (first | omega | (simp (disch := omega) only [w32_id, w64_id]; omega) | (simp (disch := omega) only [w32_id, w64_id] at *; omega) | (simp only [w32, w64] at *; omega) | exact (and32_le (by omega) (by omega)).1 | exact (and32_le (by omega) (by omega)).2 | exact (mulR (by omega) (by omega) (by omega) (by omega)).1 | exact (mulR (by omega) (by omega) (by omega) (by omega)).2 | (subst_vars; simp [upZ] at *; omega) | (subst_vars; simp [upZ] at *; simp only [w32, w64] at *; omega))⟩))
      | ((fail_if_success (first | (with_reducible show _ ≤ _) | (with_reducible show _ = _) | (with_reducible show _ ∨ _) | (with_reducible show _ < _) | (with_reducible show G _ _ _ _))); exact Exists.intro _ (Exists.intro _ ⟨rfl, rfl, by assumption, by assumption⟩))
      | ((fail_if_success (first | (with_reducible show _ ≤ _) | (with_reducible show _ = _) | (with_reducible show _ ∨ _) | (with_reducible show _ < _) | (with_reducible show G _ _ _ _))); exact Exists.intro _ ⟨rfl, rfl, by assumption, by assumption⟩)
      | ((fail_if_success (first | (with_reducible show _ ≤ _) | (with_reducible show _ = _) | (with_reducible show _ ∨ _) | (with_reducible show _ < _) | (with_reducible show G _ _ _ _))); exact Or.inl (Exists.intro _ ⟨rfl, rfl, by assumption, by assumption⟩))
      | ((fail_if_success (first | (with_reducible show _ ≤ _) | (with_reducible show _ = _) | (with_reducible show _ ∨ _) | (with_reducible show _ < _) | (with_reducible show G _ _ _ _))); exact Or.inr (Exists.intro _ ⟨rfl, rfl, by assumption, by assumption⟩))
      | omega
      | rfl
      | exact trivial
      | decide
      | (show (0 : Int) < _; omega)
      | (show (0 : Int) < _; simp only [w64] at *; omega)
      | (simp only [w32, w64] at *; omega)
      | (first | omega | (simp (disch := omega) only [w32_id, w64_id]; omega) | (simp (disch := omega) only [w32_id, w64_id] at *; omega) | (simp only [w32, w64] at *; omega) | exact (and32_le (by omega) (by omega)).1 | exact (and32_le (by omega) (by omega)).2 | exact (mulR (by omega) (by omega) (by omega) (by omega)).1 | exact (mulR (by omega) (by omega) (by omega) (by omega)).2 | (subst_vars; simp [upZ] at *; omega) | (subst_vars; simp [upZ] at *; simp only [w32, w64] at *; omega))
      | skip
