/-! ===== weak contracts: times ===== -/
def s_X9_notesCome : Sp := wspU 5 9 (fun as Z => match as with
    | [.inr (.inr a0), .inr (.inr a1), .inr (.inr a2), .inl a3, .inl a4] => (((a0 = 88 ∧ a1 = 2 ∧ a2 = 86) ∨ (a0 = 95 ∧ a1 = 2 ∧ a2 = 86))) ∧ (True) ∧ (True) ∧ (True) ∧ ((0 ≤ a4 ∧ a4 ≤ 35)) ∧ True
    | _ => False) (fun as => match as with
    | [.inr (.inr a0), .inr (.inr a1), .inr (.inr a2), .inl a3, .inl a4] => []
    | _ => [])
set_option maxRecDepth 100000 in
set_option maxHeartbeats 40000000 in
theorem c_X9_notesCome {l : Launch} {D : va_G} {cA : Nat → ClassId} : PM l D cA yX9_notesCome cX9_notesCome 9 (some .int) 1 23 s_X9_notesCome := by
  refine of_X9_notesCome (c_X3_beside) ⟨rfl, rfl⟩ (c_X9_ended) ⟨rfl, rfl⟩ (c_J9_max) ⟨rfl, rfl⟩ (fun as σ hwf hao hpre => ?_)
  obtain ⟨n, Z, R⟩ := σ
  obtain ⟨hR, hI, hpre⟩ := hpre
  obtain rfl : R = R0 := hR
  rcases as with _ | ⟨x | x | a0, _ | ⟨x | x | a1, _ | ⟨x | x | a2, _ | ⟨a3 | x | x, _ | ⟨a4 | x | x, _ | ⟨v, t⟩⟩⟩⟩⟩⟩ <;> first | exact (hpre : False).elim | skip
  obtain ⟨k3l, k3u⟩ : okI a3 := hao (vi a3) (by simp)
  obtain ⟨k4l, k4u⟩ : okI a4 := hao (vi a4) (by simp)
  obtain ⟨h0, h1, h2, h3, h4, -⟩ := hpre
  have hk : keeps ([]) Z Z := keeps_refl
  refine ⟨Nat.le_of_ble_eq_true rfl, fun G hG => ?_⟩
  clear hao hwf
  rcases h0 with ⟨rfl, rfl, rfl⟩ | ⟨rfl, rfl, rfl⟩
  · have loop : ∀ fuel : Nat, (∀ (Z1 : ZT) (v5 : Int) (v6 : Int), CI Z1 → keeps ([]) Z Z1 → ((1 ≤ v6 ∧ v6 ≤ 5) ∧ True) → 6 - v6 ≤ (fuel : Int) → G 6 [(0, vr 88), (1, vr 2), (2, vr 86), (3, vi a3), (4, vi a4), (5, vi v5), (6, vi v6)] [] (n, Z1, R0)) := by
      intro fuel
      induction fuel with
      | zero => exact (by intros; omega)
      | succ fuel ih =>
        have ih6 := ih
        · intro Z1 v5 v6 hI1 hk1 hv hm
          obtain ⟨w0, -⟩ := hv
          clear hk hI
          refine wq_run hG n R0 [6] 900 _ _ _ _ ?_
          repeat' (first
              | with_reducible rfl
              | refine And.intro ?_ ?_
              | with_reducible exact True.intro
              | ((with_reducible show _ = true); rfl)
              | ((with_reducible show recvG _ _); rfl)
              | ((with_reducible show CI _); first | with_reducible assumption | assumption)
              | (fail_if_success (first | (with_reducible show _ ≤ _) | (with_reducible show _ = _) | (with_reducible show _ ∨ _) | (with_reducible show _ < _) | (with_reducible show G _ _ _ _))
                 first
                 | show G _ _ _ _
                 | (intro (Z2 : ZT) hZ2; have hZ3 : Z' = Z2 := hZ2.symm; subst hZ3)
                 | (intro (Z2 : ZT) hZ2; have hZ3 : Z1 = Z2 := hZ2.symm; subst hZ3)
                 | (intro (Z2 : ZT) hZ2; have hZ3 : Z = Z2 := hZ2.symm; subst hZ3)
                 | (refine ld_bnd (by first | with_reducible assumption | assumption) rfl ?_; intro _ _ _ _)
                 | (refine st_bnd (by first | with_reducible assumption | assumption) (by first | with_reducible assumption | assumption) (by decide) (fun lo hi hb => by first | (cases hb; done) | (cases hb; constructor <;> (first | omega | (simp (disch := omega) only [w32_id, w64_id]; omega) | (simp (disch := omega) only [w32_id, w64_id] at *; omega) | (simp only [w32, w64] at *; omega) | exact (and32_le (by omega) (by omega)).1 | exact (and32_le (by omega) (by omega)).2 | exact (mulR (by omega) (by omega) (by omega) (by omega)).1 | exact (mulR (by omega) (by omega) (by omega) (by omega)).2 | (subst_vars; simp [upZ] at *; omega) | (subst_vars; simp [upZ] at *; simp only [w32, w64] at *; omega)))) ?_; intro Z' _ _ _)
                 | (intro (r : Option PV) σ' hq
                    first
                    | (obtain ⟨rfl, rfl⟩ := hq)
                    | (obtain ⟨Z', x, rfl, rfl, hI2, hk2, hl2, hu2⟩ := hq; have hk3 := keeps_to (by first | with_reducible assumption | assumption) (by rfl) hk2; clear hk2)
                    | (obtain ⟨Z', x, rfl, rfl, hI2, hk2⟩ := hq; have hk3 := keeps_to (by first | with_reducible assumption | assumption) (by rfl) hk2; clear hk2)
                    | (rcases hq with ⟨Z', rfl, rfl, hI2, hk2⟩ | ⟨Z', rfl, rfl, hI2, hk2⟩ <;> (have hk3 := keeps_to (by first | with_reducible assumption | assumption) (by rfl) hk2; clear hk2))
                    | (obtain ⟨Z', rfl, rfl, hI2, hk2⟩ := hq; have hk3 := keeps_to (by first | with_reducible assumption | assumption) (by rfl) hk2; clear hk2))
                 | (intro hc; (try simp only [cmp3_c] at hc); simp only [cmpI] at hc)
                 | (show CI _; assumption)
                 | intro (_ : Int)
                 | intro (Z' : ZT)
                 | intro (_ : CI _)
                 | intro (_ : keeps _ _ _)
                 | intro (_ : _ ≤ _)
                 | intro (_ : _ = _)
                 | intro (_ : _ < _)
                 | intro (_ : _ ∨ _)))
          all_goals first
            | with_reducible rfl
            | ((with_reducible show _ = _); rfl)
            | ((with_reducible show recvG _ _); rfl)
            | with_reducible exact trivial
            | ((fail_if_success (first | (with_reducible show _ ≤ _) | (with_reducible show _ = _) | (with_reducible show _ ∨ _) | (with_reducible show _ < _) | (with_reducible show G _ _ _ _))); (refine Exists.intro _ (And.intro rfl (And.intro rfl (And.intro ?_ ?_)))) <;> with_reducible assumption)
            | ((with_reducible show G 6 _ _ _); exact hG.2 6 _ [(0, vr 88), (1, vr 2), (2, vr 86), (3, vi a3), (4, vi a4), (5, vi _), (6, vi _)] _ _ rfl (ih6 _ _ _ (by assumption) (by assumption) (by refine ⟨by first | omega | (refine ⟨?_, ?_⟩ <;> (first | omega | (simp (disch := omega) only [w32_id, w64_id]; omega) | (simp (disch := omega) only [w32_id, w64_id] at *; omega) | (simp only [w32, w64] at *; omega) | exact (and32_le (by omega) (by omega)).1 | exact (and32_le (by omega) (by omega)).2 | exact (mulR (by omega) (by omega) (by omega) (by omega)).1 | exact (mulR (by omega) (by omega) (by omega) (by omega)).2 | (subst_vars; simp [upZ] at *; omega) | (subst_vars; simp [upZ] at *; simp only [w32, w64] at *; omega))) | (first | omega | (simp (disch := omega) only [w32_id, w64_id]; omega) | (simp (disch := omega) only [w32_id, w64_id] at *; omega) | (simp only [w32, w64] at *; omega) | exact (and32_le (by omega) (by omega)).1 | exact (and32_le (by omega) (by omega)).2 | exact (mulR (by omega) (by omega) (by omega) (by omega)).1 | exact (mulR (by omega) (by omega) (by omega) (by omega)).2 | (subst_vars; simp [upZ] at *; omega) | (subst_vars; simp [upZ] at *; simp only [w32, w64] at *; omega)), trivial⟩) (by first | omega | (simp (disch := omega) only [w32_id, w64_id]; omega) | (simp (disch := omega) only [w32_id, w64_id] at *; omega) | (simp only [w32, w64] at *; omega) | exact (and32_le (by omega) (by omega)).1 | exact (and32_le (by omega) (by omega)).2 | exact (mulR (by omega) (by omega) (by omega) (by omega)).1 | exact (mulR (by omega) (by omega) (by omega) (by omega)).2 | (subst_vars; simp [upZ] at *; omega) | (subst_vars; simp [upZ] at *; simp only [w32, w64] at *; omega))))
            | ((fail_if_success (first | (with_reducible show _ ≤ _) | (with_reducible show _ = _) | (with_reducible show _ ∨ _) | (with_reducible show _ < _) | (with_reducible show G _ _ _ _))); exact Exists.intro _ (Exists.intro _ ⟨rfl, rfl, by assumption, by assumption, by (first | omega | (simp (disch := omega) only [w32_id, w64_id]; omega) | (simp (disch := omega) only [w32_id, w64_id] at *; omega) | (simp only [w32, w64] at *; omega) | exact (and32_le (by omega) (by omega)).1 | exact (and32_le (by omega) (by omega)).2 | exact (mulR (by omega) (by omega) (by omega) (by omega)).1 | exact (mulR (by omega) (by omega) (by omega) (by omega)).2 | (subst_vars; simp [upZ] at *; omega) | (subst_vars; simp [upZ] at *; simp only [w32, w64] at *; omega)), by (first | omega | (simp (disch := omega) only [w32_id, w64_id]; omega) | (simp (disch := omega) only [w32_id, w64_id] at *; omega) | (simp only [w32, w64] at *; omega) | exact (and32_le (by omega) (by omega)).1 | exact (and32_le (by omega) (by omega)).2 | exact (mulR (by omega) (by omega) (by omega) (by omega)).1 | exact (mulR (by omega) (by omega) (by omega) (by omega)).2 | (subst_vars; simp [upZ] at *; omega) | (subst_vars; simp [upZ] at *; simp only [w32, w64] at *; omega))⟩))
            | ((fail_if_success (first | (with_reducible show _ ≤ _) | (with_reducible show _ = _) | (with_reducible show _ ∨ _) | (with_reducible show _ < _) | (with_reducible show G _ _ _ _))); exact Exists.intro _ (Exists.intro _ ⟨rfl, rfl, by assumption, by assumption⟩))
            | ((fail_if_success (first | (with_reducible show _ ≤ _) | (with_reducible show _ = _) | (with_reducible show _ ∨ _) | (with_reducible show _ < _) | (with_reducible show G _ _ _ _))); exact Exists.intro _ ⟨rfl, rfl, by assumption, by assumption⟩)
            | ((fail_if_success (first | (with_reducible show _ ≤ _) | (with_reducible show _ = _) | (with_reducible show _ ∨ _) | (with_reducible show _ < _) | (with_reducible show G _ _ _ _))); exact Or.inl (Exists.intro _ ⟨rfl, rfl, by assumption, by assumption⟩))
            | ((fail_if_success (first | (with_reducible show _ ≤ _) | (with_reducible show _ = _) | (with_reducible show _ ∨ _) | (with_reducible show _ < _) | (with_reducible show G _ _ _ _))); exact Or.inr (Exists.intro _ ⟨rfl, rfl, by assumption, by assumption⟩))
            | omega
            | rfl
            | exact trivial
            | decide
            | (show (0 : Int) < _; omega)
            | (show (0 : Int) < _; simp only [w64] at *; omega)
            | (simp only [w32, w64] at *; omega)
            | (first | omega | (simp (disch := omega) only [w32_id, w64_id]; omega) | (simp (disch := omega) only [w32_id, w64_id] at *; omega) | (simp only [w32, w64] at *; omega) | exact (and32_le (by omega) (by omega)).1 | exact (and32_le (by omega) (by omega)).2 | exact (mulR (by omega) (by omega) (by omega) (by omega)).1 | exact (mulR (by omega) (by omega) (by omega) (by omega)).2 | (subst_vars; simp [upZ] at *; omega) | (subst_vars; simp [upZ] at *; simp only [w32, w64] at *; omega))
            | skip
    refine wq_run hG n R0 [6] 900 _ _ _ _ ?_
    repeat' (first
        | with_reducible rfl
        | refine And.intro ?_ ?_
        | with_reducible exact True.intro
        | ((with_reducible show _ = true); rfl)
        | ((with_reducible show recvG _ _); rfl)
        | ((with_reducible show CI _); first | with_reducible assumption | assumption)
        | (fail_if_success (first | (with_reducible show _ ≤ _) | (with_reducible show _ = _) | (with_reducible show _ ∨ _) | (with_reducible show _ < _) | (with_reducible show G _ _ _ _))
           first
           | show G _ _ _ _
           | (intro (Z2 : ZT) hZ2; have hZ3 : Z' = Z2 := hZ2.symm; subst hZ3)
           | (intro (Z2 : ZT) hZ2; have hZ3 : Z1 = Z2 := hZ2.symm; subst hZ3)
           | (intro (Z2 : ZT) hZ2; have hZ3 : Z = Z2 := hZ2.symm; subst hZ3)
           | (refine ld_bnd (by first | with_reducible assumption | assumption) rfl ?_; intro _ _ _ _)
           | (refine st_bnd (by first | with_reducible assumption | assumption) (by first | with_reducible assumption | assumption) (by decide) (fun lo hi hb => by first | (cases hb; done) | (cases hb; constructor <;> (first | omega | (simp (disch := omega) only [w32_id, w64_id]; omega) | (simp (disch := omega) only [w32_id, w64_id] at *; omega) | (simp only [w32, w64] at *; omega) | exact (and32_le (by omega) (by omega)).1 | exact (and32_le (by omega) (by omega)).2 | exact (mulR (by omega) (by omega) (by omega) (by omega)).1 | exact (mulR (by omega) (by omega) (by omega) (by omega)).2 | (subst_vars; simp [upZ] at *; omega) | (subst_vars; simp [upZ] at *; simp only [w32, w64] at *; omega)))) ?_; intro Z' _ _ _)
           | (intro (r : Option PV) σ' hq
              first
              | (obtain ⟨rfl, rfl⟩ := hq)
              | (obtain ⟨Z', x, rfl, rfl, hI2, hk2, hl2, hu2⟩ := hq; have hk3 := keeps_to (by first | with_reducible assumption | assumption) (by rfl) hk2; clear hk2)
              | (obtain ⟨Z', x, rfl, rfl, hI2, hk2⟩ := hq; have hk3 := keeps_to (by first | with_reducible assumption | assumption) (by rfl) hk2; clear hk2)
              | (rcases hq with ⟨Z', rfl, rfl, hI2, hk2⟩ | ⟨Z', rfl, rfl, hI2, hk2⟩ <;> (have hk3 := keeps_to (by first | with_reducible assumption | assumption) (by rfl) hk2; clear hk2))
              | (obtain ⟨Z', rfl, rfl, hI2, hk2⟩ := hq; have hk3 := keeps_to (by first | with_reducible assumption | assumption) (by rfl) hk2; clear hk2))
           | (intro hc; (try simp only [cmp3_c] at hc); simp only [cmpI] at hc)
           | (show CI _; assumption)
           | intro (_ : Int)
           | intro (Z' : ZT)
           | intro (_ : CI _)
           | intro (_ : keeps _ _ _)
           | intro (_ : _ ≤ _)
           | intro (_ : _ = _)
           | intro (_ : _ < _)
           | intro (_ : _ ∨ _)))
    all_goals (have lp6 := loop 1000000)
    all_goals first
      | with_reducible rfl
      | ((with_reducible show _ = _); rfl)
      | ((with_reducible show recvG _ _); rfl)
      | with_reducible exact trivial
      | ((fail_if_success (first | (with_reducible show _ ≤ _) | (with_reducible show _ = _) | (with_reducible show _ ∨ _) | (with_reducible show _ < _) | (with_reducible show G _ _ _ _))); (refine Exists.intro _ (And.intro rfl (And.intro rfl (And.intro ?_ ?_)))) <;> with_reducible assumption)
      | ((with_reducible show G 6 _ _ _); exact hG.2 6 _ [(0, vr 88), (1, vr 2), (2, vr 86), (3, vi a3), (4, vi a4), (5, vi _), (6, vi _)] _ _ rfl (lp6 _ _ _ (by assumption) (by assumption) (by refine ⟨by first | omega | (refine ⟨?_, ?_⟩ <;> (first | omega | (simp (disch := omega) only [w32_id, w64_id]; omega) | (simp (disch := omega) only [w32_id, w64_id] at *; omega) | (simp only [w32, w64] at *; omega) | exact (and32_le (by omega) (by omega)).1 | exact (and32_le (by omega) (by omega)).2 | exact (mulR (by omega) (by omega) (by omega) (by omega)).1 | exact (mulR (by omega) (by omega) (by omega) (by omega)).2 | (subst_vars; simp [upZ] at *; omega) | (subst_vars; simp [upZ] at *; simp only [w32, w64] at *; omega))) | (first | omega | (simp (disch := omega) only [w32_id, w64_id]; omega) | (simp (disch := omega) only [w32_id, w64_id] at *; omega) | (simp only [w32, w64] at *; omega) | exact (and32_le (by omega) (by omega)).1 | exact (and32_le (by omega) (by omega)).2 | exact (mulR (by omega) (by omega) (by omega) (by omega)).1 | exact (mulR (by omega) (by omega) (by omega) (by omega)).2 | (subst_vars; simp [upZ] at *; omega) | (subst_vars; simp [upZ] at *; simp only [w32, w64] at *; omega)), trivial⟩) (by first | omega | (simp (disch := omega) only [w32_id, w64_id]; omega) | (simp (disch := omega) only [w32_id, w64_id] at *; omega) | (simp only [w32, w64] at *; omega) | exact (and32_le (by omega) (by omega)).1 | exact (and32_le (by omega) (by omega)).2 | exact (mulR (by omega) (by omega) (by omega) (by omega)).1 | exact (mulR (by omega) (by omega) (by omega) (by omega)).2 | (subst_vars; simp [upZ] at *; omega) | (subst_vars; simp [upZ] at *; simp only [w32, w64] at *; omega))))
      | ((fail_if_success (first | (with_reducible show _ ≤ _) | (with_reducible show _ = _) | (with_reducible show _ ∨ _) | (with_reducible show _ < _) | (with_reducible show G _ _ _ _))); exact Exists.intro _ (Exists.intro _ ⟨rfl, rfl, by assumption, by assumption, by (first | omega | (simp (disch := omega) only [w32_id, w64_id]; omega) | (simp (disch := omega) only [w32_id, w64_id] at *; omega) | (simp only [w32, w64] at *; omega) | exact (and32_le (by omega) (by omega)).1 | exact (and32_le (by omega) (by omega)).2 | exact (mulR (by omega) (by omega) (by omega) (by omega)).1 | exact (mulR (by omega) (by omega) (by omega) (by omega)).2 | (subst_vars; simp [upZ] at *; omega) | (subst_vars; simp [upZ] at *; simp only [w32, w64] at *; omega)), by (first | omega | (simp (disch := omega) only [w32_id, w64_id]; omega) | (simp (disch := omega) only [w32_id, w64_id] at *; omega) | (simp only [w32, w64] at *; omega) | exact (and32_le (by omega) (by omega)).1 | exact (and32_le (by omega) (by omega)).2 | exact (mulR (by omega) (by omega) (by omega) (by omega)).1 | exact (mulR (by omega) (by omega) (by omega) (by omega)).2 | (subst_vars; simp [upZ] at *; omega) | (subst_vars; simp [upZ] at *; simp only [w32, w64] at *; omega))⟩))
      | ((fail_if_success (first | (with_reducible show _ ≤ _) | (with_reducible show _ = _) | (with_reducible show _ ∨ _) | (with_reducible show _ < _) | (with_reducible show G _ _ _ _))); exact Exists.intro _ (Exists.intro _ ⟨rfl, rfl, by assumption, by assumption⟩))
      | ((fail_if_success (first | (with_reducible show _ ≤ _) | (with_reducible show _ = _) | (with_reducible show _ ∨ _) | (with_reducible show _ < _) | (with_reducible show G _ _ _ _))); exact Exists.intro _ ⟨rfl, rfl, by assumption, by assumption⟩)
      | ((fail_if_success (first | (with_reducible show _ ≤ _) | (with_reducible show _ = _) | (with_reducible show _ ∨ _) | (with_reducible show _ < _) | (with_reducible show G _ _ _ _))); exact Or.inl (Exists.intro _ ⟨rfl, rfl, by assumption, by assumption⟩))
      | ((fail_if_success (first | (with_reducible show _ ≤ _) | (with_reducible show _ = _) | (with_reducible show _ ∨ _) | (with_reducible show _ < _) | (with_reducible show G _ _ _ _))); exact Or.inr (Exists.intro _ ⟨rfl, rfl, by assumption, by assumption⟩))
      | omega
      | rfl
      | exact trivial
      | decide
      | (show (0 : Int) < _; omega)
      | (show (0 : Int) < _; simp only [w64] at *; omega)
      | (simp only [w32, w64] at *; omega)
      | (first | omega | (simp (disch := omega) only [w32_id, w64_id]; omega) | (simp (disch := omega) only [w32_id, w64_id] at *; omega) | (simp only [w32, w64] at *; omega) | exact (and32_le (by omega) (by omega)).1 | exact (and32_le (by omega) (by omega)).2 | exact (mulR (by omega) (by omega) (by omega) (by omega)).1 | exact (mulR (by omega) (by omega) (by omega) (by omega)).2 | (subst_vars; simp [upZ] at *; omega) | (subst_vars; simp [upZ] at *; simp only [w32, w64] at *; omega))
      | skip
  · have loop : ∀ fuel : Nat, (∀ (Z1 : ZT) (v5 : Int) (v6 : Int), CI Z1 → keeps ([]) Z Z1 → ((1 ≤ v6 ∧ v6 ≤ 5) ∧ True) → 6 - v6 ≤ (fuel : Int) → G 6 [(0, vr 95), (1, vr 2), (2, vr 86), (3, vi a3), (4, vi a4), (5, vi v5), (6, vi v6)] [] (n, Z1, R0)) := by
      intro fuel
      induction fuel with
      | zero => exact (by intros; omega)
      | succ fuel ih =>
        have ih6 := ih
        · intro Z1 v5 v6 hI1 hk1 hv hm
          obtain ⟨w0, -⟩ := hv
          clear hk hI
          refine wq_run hG n R0 [6] 900 _ _ _ _ ?_
          repeat' (first
              | with_reducible rfl
              | refine And.intro ?_ ?_
              | with_reducible exact True.intro
              | ((with_reducible show _ = true); rfl)
              | ((with_reducible show recvG _ _); rfl)
              | ((with_reducible show CI _); first | with_reducible assumption | assumption)
              | (fail_if_success (first | (with_reducible show _ ≤ _) | (with_reducible show _ = _) | (with_reducible show _ ∨ _) | (with_reducible show _ < _) | (with_reducible show G _ _ _ _))
                 first
                 | show G _ _ _ _
                 | (intro (Z2 : ZT) hZ2; have hZ3 : Z' = Z2 := hZ2.symm; subst hZ3)
                 | (intro (Z2 : ZT) hZ2; have hZ3 : Z1 = Z2 := hZ2.symm; subst hZ3)
                 | (intro (Z2 : ZT) hZ2; have hZ3 : Z = Z2 := hZ2.symm; subst hZ3)
                 | (refine ld_bnd (by first | with_reducible assumption | assumption) rfl ?_; intro _ _ _ _)
                 | (refine st_bnd (by first | with_reducible assumption | assumption) (by first | with_reducible assumption | assumption) (by decide) (fun lo hi hb => by first | (cases hb; done) | (cases hb; constructor <;> (first | omega | (simp (disch := omega) only [w32_id, w64_id]; omega) | (simp (disch := omega) only [w32_id, w64_id] at *; omega) | (simp only [w32, w64] at *; omega) | exact (and32_le (by omega) (by omega)).1 | exact (and32_le (by omega) (by omega)).2 | exact (mulR (by omega) (by omega) (by omega) (by omega)).1 | exact (mulR (by omega) (by omega) (by omega) (by omega)).2 | (subst_vars; simp [upZ] at *; omega) | (subst_vars; simp [upZ] at *; simp only [w32, w64] at *; omega)))) ?_; intro Z' _ _ _)
                 | (intro (r : Option PV) σ' hq
                    first
                    | (obtain ⟨rfl, rfl⟩ := hq)
                    | (obtain ⟨Z', x, rfl, rfl, hI2, hk2, hl2, hu2⟩ := hq; have hk3 := keeps_to (by first | with_reducible assumption | assumption) (by rfl) hk2; clear hk2)
                    | (obtain ⟨Z', x, rfl, rfl, hI2, hk2⟩ := hq; have hk3 := keeps_to (by first | with_reducible assumption | assumption) (by rfl) hk2; clear hk2)
                    | (rcases hq with ⟨Z', rfl, rfl, hI2, hk2⟩ | ⟨Z', rfl, rfl, hI2, hk2⟩ <;> (have hk3 := keeps_to (by first | with_reducible assumption | assumption) (by rfl) hk2; clear hk2))
                    | (obtain ⟨Z', rfl, rfl, hI2, hk2⟩ := hq; have hk3 := keeps_to (by first | with_reducible assumption | assumption) (by rfl) hk2; clear hk2))
                 | (intro hc; (try simp only [cmp3_c] at hc); simp only [cmpI] at hc)
                 | (show CI _; assumption)
                 | intro (_ : Int)
                 | intro (Z' : ZT)
                 | intro (_ : CI _)
                 | intro (_ : keeps _ _ _)
                 | intro (_ : _ ≤ _)
                 | intro (_ : _ = _)
                 | intro (_ : _ < _)
                 | intro (_ : _ ∨ _)))
          all_goals first
            | with_reducible rfl
            | ((with_reducible show _ = _); rfl)
            | ((with_reducible show recvG _ _); rfl)
            | with_reducible exact trivial
            | ((fail_if_success (first | (with_reducible show _ ≤ _) | (with_reducible show _ = _) | (with_reducible show _ ∨ _) | (with_reducible show _ < _) | (with_reducible show G _ _ _ _))); (refine Exists.intro _ (And.intro rfl (And.intro rfl (And.intro ?_ ?_)))) <;> with_reducible assumption)
            | ((with_reducible show G 6 _ _ _); exact hG.2 6 _ [(0, vr 95), (1, vr 2), (2, vr 86), (3, vi a3), (4, vi a4), (5, vi _), (6, vi _)] _ _ rfl (ih6 _ _ _ (by assumption) (by assumption) (by refine ⟨by first | omega | (refine ⟨?_, ?_⟩ <;> (first | omega | (simp (disch := omega) only [w32_id, w64_id]; omega) | (simp (disch := omega) only [w32_id, w64_id] at *; omega) | (simp only [w32, w64] at *; omega) | exact (and32_le (by omega) (by omega)).1 | exact (and32_le (by omega) (by omega)).2 | exact (mulR (by omega) (by omega) (by omega) (by omega)).1 | exact (mulR (by omega) (by omega) (by omega) (by omega)).2 | (subst_vars; simp [upZ] at *; omega) | (subst_vars; simp [upZ] at *; simp only [w32, w64] at *; omega))) | (first | omega | (simp (disch := omega) only [w32_id, w64_id]; omega) | (simp (disch := omega) only [w32_id, w64_id] at *; omega) | (simp only [w32, w64] at *; omega) | exact (and32_le (by omega) (by omega)).1 | exact (and32_le (by omega) (by omega)).2 | exact (mulR (by omega) (by omega) (by omega) (by omega)).1 | exact (mulR (by omega) (by omega) (by omega) (by omega)).2 | (subst_vars; simp [upZ] at *; omega) | (subst_vars; simp [upZ] at *; simp only [w32, w64] at *; omega)), trivial⟩) (by first | omega | (simp (disch := omega) only [w32_id, w64_id]; omega) | (simp (disch := omega) only [w32_id, w64_id] at *; omega) | (simp only [w32, w64] at *; omega) | exact (and32_le (by omega) (by omega)).1 | exact (and32_le (by omega) (by omega)).2 | exact (mulR (by omega) (by omega) (by omega) (by omega)).1 | exact (mulR (by omega) (by omega) (by omega) (by omega)).2 | (subst_vars; simp [upZ] at *; omega) | (subst_vars; simp [upZ] at *; simp only [w32, w64] at *; omega))))
            | ((fail_if_success (first | (with_reducible show _ ≤ _) | (with_reducible show _ = _) | (with_reducible show _ ∨ _) | (with_reducible show _ < _) | (with_reducible show G _ _ _ _))); exact Exists.intro _ (Exists.intro _ ⟨rfl, rfl, by assumption, by assumption, by (first | omega | (simp (disch := omega) only [w32_id, w64_id]; omega) | (simp (disch := omega) only [w32_id, w64_id] at *; omega) | (simp only [w32, w64] at *; omega) | exact (and32_le (by omega) (by omega)).1 | exact (and32_le (by omega) (by omega)).2 | exact (mulR (by omega) (by omega) (by omega) (by omega)).1 | exact (mulR (by omega) (by omega) (by omega) (by omega)).2 | (subst_vars; simp [upZ] at *; omega) | (subst_vars; simp [upZ] at *; simp only [w32, w64] at *; omega)), by (first | omega | (simp (disch := omega) only [w32_id, w64_id]; omega) | (simp (disch := omega) only [w32_id, w64_id] at *; omega) | (simp only [w32, w64] at *; omega) | exact (and32_le (by omega) (by omega)).1 | exact (and32_le (by omega) (by omega)).2 | exact (mulR (by omega) (by omega) (by omega) (by omega)).1 | exact (mulR (by omega) (by omega) (by omega) (by omega)).2 | (subst_vars; simp [upZ] at *; omega) | (subst_vars; simp [upZ] at *; simp only [w32, w64] at *; omega))⟩))
            | ((fail_if_success (first | (with_reducible show _ ≤ _) | (with_reducible show _ = _) | (with_reducible show _ ∨ _) | (with_reducible show _ < _) | (with_reducible show G _ _ _ _))); exact Exists.intro _ (Exists.intro _ ⟨rfl, rfl, by assumption, by assumption⟩))
            | ((fail_if_success (first | (with_reducible show _ ≤ _) | (with_reducible show _ = _) | (with_reducible show _ ∨ _) | (with_reducible show _ < _) | (with_reducible show G _ _ _ _))); exact Exists.intro _ ⟨rfl, rfl, by assumption, by assumption⟩)
            | ((fail_if_success (first | (with_reducible show _ ≤ _) | (with_reducible show _ = _) | (with_reducible show _ ∨ _) | (with_reducible show _ < _) | (with_reducible show G _ _ _ _))); exact Or.inl (Exists.intro _ ⟨rfl, rfl, by assumption, by assumption⟩))
            | ((fail_if_success (first | (with_reducible show _ ≤ _) | (with_reducible show _ = _) | (with_reducible show _ ∨ _) | (with_reducible show _ < _) | (with_reducible show G _ _ _ _))); exact Or.inr (Exists.intro _ ⟨rfl, rfl, by assumption, by assumption⟩))
            | omega
            | rfl
            | exact trivial
            | decide
            | (show (0 : Int) < _; omega)
            | (show (0 : Int) < _; simp only [w64] at *; omega)
            | (simp only [w32, w64] at *; omega)
            | (first | omega | (simp (disch := omega) only [w32_id, w64_id]; omega) | (simp (disch := omega) only [w32_id, w64_id] at *; omega) | (simp only [w32, w64] at *; omega) | exact (and32_le (by omega) (by omega)).1 | exact (and32_le (by omega) (by omega)).2 | exact (mulR (by omega) (by omega) (by omega) (by omega)).1 | exact (mulR (by omega) (by omega) (by omega) (by omega)).2 | (subst_vars; simp [upZ] at *; omega) | (subst_vars; simp [upZ] at *; simp only [w32, w64] at *; omega))
            | skip
    refine wq_run hG n R0 [6] 900 _ _ _ _ ?_
    repeat' (first
        | with_reducible rfl
        | refine And.intro ?_ ?_
        | with_reducible exact True.intro
        | ((with_reducible show _ = true); rfl)
        | ((with_reducible show recvG _ _); rfl)
        | ((with_reducible show CI _); first | with_reducible assumption | assumption)
        | (fail_if_success (first | (with_reducible show _ ≤ _) | (with_reducible show _ = _) | (with_reducible show _ ∨ _) | (with_reducible show _ < _) | (with_reducible show G _ _ _ _))
           first
           | show G _ _ _ _
           | (intro (Z2 : ZT) hZ2; have hZ3 : Z' = Z2 := hZ2.symm; subst hZ3)
           | (intro (Z2 : ZT) hZ2; have hZ3 : Z1 = Z2 := hZ2.symm; subst hZ3)
           | (intro (Z2 : ZT) hZ2; have hZ3 : Z = Z2 := hZ2.symm; subst hZ3)
           | (refine ld_bnd (by first | with_reducible assumption | assumption) rfl ?_; intro _ _ _ _)
           | (refine st_bnd (by first | with_reducible assumption | assumption) (by first | with_reducible assumption | assumption) (by decide) (fun lo hi hb => by first | (cases hb; done) | (cases hb; constructor <;> (first | omega | (simp (disch := omega) only [w32_id, w64_id]; omega) | (simp (disch := omega) only [w32_id, w64_id] at *; omega) | (simp only [w32, w64] at *; omega) | exact (and32_le (by omega) (by omega)).1 | exact (and32_le (by omega) (by omega)).2 | exact (mulR (by omega) (by omega) (by omega) (by omega)).1 | exact (mulR (by omega) (by omega) (by omega) (by omega)).2 | (subst_vars; simp [upZ] at *; omega) | (subst_vars; simp [upZ] at *; simp only [w32, w64] at *; omega)))) ?_; intro Z' _ _ _)
           | (intro (r : Option PV) σ' hq
              first
              | (obtain ⟨rfl, rfl⟩ := hq)
              | (obtain ⟨Z', x, rfl, rfl, hI2, hk2, hl2, hu2⟩ := hq; have hk3 := keeps_to (by first | with_reducible assumption | assumption) (by rfl) hk2; clear hk2)
              | (obtain ⟨Z', x, rfl, rfl, hI2, hk2⟩ := hq; have hk3 := keeps_to (by first | with_reducible assumption | assumption) (by rfl) hk2; clear hk2)
              | (rcases hq with ⟨Z', rfl, rfl, hI2, hk2⟩ | ⟨Z', rfl, rfl, hI2, hk2⟩ <;> (have hk3 := keeps_to (by first | with_reducible assumption | assumption) (by rfl) hk2; clear hk2))
              | (obtain ⟨Z', rfl, rfl, hI2, hk2⟩ := hq; have hk3 := keeps_to (by first | with_reducible assumption | assumption) (by rfl) hk2; clear hk2))
           | (intro hc; (try simp only [cmp3_c] at hc); simp only [cmpI] at hc)
           | (show CI _; assumption)
           | intro (_ : Int)
           | intro (Z' : ZT)
           | intro (_ : CI _)
           | intro (_ : keeps _ _ _)
           | intro (_ : _ ≤ _)
           | intro (_ : _ = _)
           | intro (_ : _ < _)
           | intro (_ : _ ∨ _)))
    all_goals (have lp6 := loop 1000000)
    all_goals first
      | with_reducible rfl
      | ((with_reducible show _ = _); rfl)
      | ((with_reducible show recvG _ _); rfl)
      | with_reducible exact trivial
      | ((fail_if_success (first | (with_reducible show _ ≤ _) | (with_reducible show _ = _) | (with_reducible show _ ∨ _) | (with_reducible show _ < _) | (with_reducible show G _ _ _ _))); (refine Exists.intro _ (And.intro rfl (And.intro rfl (And.intro ?_ ?_)))) <;> with_reducible assumption)
      | ((with_reducible show G 6 _ _ _); exact hG.2 6 _ [(0, vr 95), (1, vr 2), (2, vr 86), (3, vi a3), (4, vi a4), (5, vi _), (6, vi _)] _ _ rfl (lp6 _ _ _ (by assumption) (by assumption) (by refine ⟨by first | omega | (refine ⟨?_, ?_⟩ <;> (first | omega | (simp (disch := omega) only [w32_id, w64_id]; omega) | (simp (disch := omega) only [w32_id, w64_id] at *; omega) | (simp only [w32, w64] at *; omega) | exact (and32_le (by omega) (by omega)).1 | exact (and32_le (by omega) (by omega)).2 | exact (mulR (by omega) (by omega) (by omega) (by omega)).1 | exact (mulR (by omega) (by omega) (by omega) (by omega)).2 | (subst_vars; simp [upZ] at *; omega) | (subst_vars; simp [upZ] at *; simp only [w32, w64] at *; omega))) | (first | omega | (simp (disch := omega) only [w32_id, w64_id]; omega) | (simp (disch := omega) only [w32_id, w64_id] at *; omega) | (simp only [w32, w64] at *; omega) | exact (and32_le (by omega) (by omega)).1 | exact (and32_le (by omega) (by omega)).2 | exact (mulR (by omega) (by omega) (by omega) (by omega)).1 | exact (mulR (by omega) (by omega) (by omega) (by omega)).2 | (subst_vars; simp [upZ] at *; omega) | (subst_vars; simp [upZ] at *; simp only [w32, w64] at *; omega)), trivial⟩) (by first | omega | (simp (disch := omega) only [w32_id, w64_id]; omega) | (simp (disch := omega) only [w32_id, w64_id] at *; omega) | (simp only [w32, w64] at *; omega) | exact (and32_le (by omega) (by omega)).1 | exact (and32_le (by omega) (by omega)).2 | exact (mulR (by omega) (by omega) (by omega) (by omega)).1 | exact (mulR (by omega) (by omega) (by omega) (by omega)).2 | (subst_vars; simp [upZ] at *; omega) | (subst_vars; simp [upZ] at *; simp only [w32, w64] at *; omega))))
      | ((fail_if_success (first | (with_reducible show _ ≤ _) | (with_reducible show _ = _) | (with_reducible show _ ∨ _) | (with_reducible show _ < _) | (with_reducible show G _ _ _ _))); exact Exists.intro _ (Exists.intro _ ⟨rfl, rfl, by assumption, by assumption, by (first | omega | (simp (disch := omega) only [w32_id, w64_id]; omega) | (simp (disch := omega) only [w32_id, w64_id] at *; omega) | (simp only [w32, w64] at *; omega) | exact (and32_le (by omega) (by omega)).1 | exact (and32_le (by omega) (by omega)).2 | exact (mulR (by omega) (by omega) (by omega) (by omega)).1 | exact (mulR (by omega) (by omega) (by omega) (by omega)).2 | (subst_vars; simp [upZ] at *; omega) | (subst_vars; simp [upZ] at *; simp only [w32, w64] at *; omega)), by (first | omega | (simp (disch := omega) only [w32_id, w64_id]; omega) | (simp (disch := omega) only [w32_id, w64_id] at *; omega) | (simp only [w32, w64] at *; omega) | exact (and32_le (by omega) (by omega)).1 | exact (and32_le (by omega) (by omega)).2 | exact (mulR (by omega) (by omega) (by omega) (by omega)).1 | exact (mulR (by omega) (by omega) (by omega) (by omega)).2 | (subst_vars; simp [upZ] at *; omega) | (subst_vars; simp [upZ] at *; simp only [w32, w64] at *; omega))⟩))
      | ((fail_if_success (first | (with_reducible show _ ≤ _) | (with_reducible show _ = _) | (with_reducible show _ ∨ _) | (with_reducible show _ < _) | (with_reducible show G _ _ _ _))); exact Exists.intro _ (Exists.intro _ ⟨rfl, rfl, by assumption, by assumption⟩))
      | ((fail_if_success (first | (with_reducible show _ ≤ _) | (with_reducible show _ = _) | (with_reducible show _ ∨ _) | (with_reducible show _ < _) | (with_reducible show G _ _ _ _))); exact Exists.intro _ ⟨rfl, rfl, by assumption, by assumption⟩)
      | ((fail_if_success (first | (with_reducible show _ ≤ _) | (with_reducible show _ = _) | (with_reducible show _ ∨ _) | (with_reducible show _ < _) | (with_reducible show G _ _ _ _))); exact Or.inl (Exists.intro _ ⟨rfl, rfl, by assumption, by assumption⟩))
      | ((fail_if_success (first | (with_reducible show _ ≤ _) | (with_reducible show _ = _) | (with_reducible show _ ∨ _) | (with_reducible show _ < _) | (with_reducible show G _ _ _ _))); exact Or.inr (Exists.intro _ ⟨rfl, rfl, by assumption, by assumption⟩))
      | omega
      | rfl
      | exact trivial
      | decide
      | (show (0 : Int) < _; omega)
      | (show (0 : Int) < _; simp only [w64] at *; omega)
      | (simp only [w32, w64] at *; omega)
      | (first | omega | (simp (disch := omega) only [w32_id, w64_id]; omega) | (simp (disch := omega) only [w32_id, w64_id] at *; omega) | (simp only [w32, w64] at *; omega) | exact (and32_le (by omega) (by omega)).1 | exact (and32_le (by omega) (by omega)).2 | exact (mulR (by omega) (by omega) (by omega) (by omega)).1 | exact (mulR (by omega) (by omega) (by omega) (by omega)).2 | (subst_vars; simp [upZ] at *; omega) | (subst_vars; simp [upZ] at *; simp only [w32, w64] at *; omega))
      | skip
def s_X9_work : Sp := wspV 4 9 (fun as Z => match as with
    | [.inr (.inr a0), .inr (.inr a1), .inr (.inr a2), .inl a3] => (((a0 = 88 ∧ a1 = 2 ∧ a2 = 86) ∨ (a0 = 95 ∧ a1 = 2 ∧ a2 = 86))) ∧ (True) ∧ (True) ∧ ((1 ≤ a3 ∧ a3 ≤ 12)) ∧ True
    | _ => False) (fun as => match as with
    | [.inr (.inr a0), .inr (.inr a1), .inr (.inr a2), .inl a3] => [a0 + 2, a0 + 3]
    | _ => [])
set_option maxRecDepth 100000 in
set_option maxHeartbeats 40000000 in
theorem c_X9_work {l : Launch} {D : va_G} {cA : Nat → ClassId} : PM l D cA yX9_work cX9_work 8 none 2 51 s_X9_work := by
  refine of_X9_work (c_X9_notesCome) ⟨rfl, rfl⟩ (c_J9_max) ⟨rfl, rfl⟩ (c_X2_paceOf) ⟨rfl, rfl⟩ (fun as σ hwf hao hpre => ?_)
  obtain ⟨n, Z, R⟩ := σ
  obtain ⟨hR, hI, hpre⟩ := hpre
  obtain rfl : R = R0 := hR
  rcases as with _ | ⟨x | x | a0, _ | ⟨x | x | a1, _ | ⟨x | x | a2, _ | ⟨a3 | x | x, _ | ⟨v, t⟩⟩⟩⟩⟩ <;> first | exact (hpre : False).elim | skip
  obtain ⟨k3l, k3u⟩ : okI a3 := hao (vi a3) (by simp)
  obtain ⟨h0, h1, h2, h3, -⟩ := hpre
  have hk : keeps ([a0 + 2, a0 + 3]) Z Z := keeps_refl
  refine ⟨Nat.le_of_ble_eq_true rfl, fun G hG => ?_⟩
  clear hao hwf
  rcases h0 with ⟨rfl, rfl, rfl⟩ | ⟨rfl, rfl, rfl⟩
  · have loop : ∀ fuel : Nat, (∀ (Z1 : ZT) (v4 : Int), CI Z1 → keeps ([88 + 2, 88 + 3]) Z Z1 → ((0 ≤ v4 ∧ v4 ≤ 36) ∧ True) → 37 - v4 ≤ (fuel : Int) → G 3 [(0, vr 88), (1, vr 2), (2, vr 86), (3, vi a3), (4, vi v4)] [] (n, Z1, R0)) := by
      intro fuel
      induction fuel with
      | zero => exact (by intros; omega)
      | succ fuel ih =>
        have ih3 := ih
        · intro Z1 v4 hI1 hk1 hv hm
          obtain ⟨w0, -⟩ := hv
          clear hk hI
          refine wq_run hG n R0 [3] 900 _ _ _ _ ?_
          repeat' (first
              | with_reducible rfl
              | refine And.intro ?_ ?_
              | with_reducible exact True.intro
              | ((with_reducible show _ = true); rfl)
              | ((with_reducible show recvG _ _); rfl)
              | ((with_reducible show CI _); first | with_reducible assumption | assumption)
              | (fail_if_success (first | (with_reducible show _ ≤ _) | (with_reducible show _ = _) | (with_reducible show _ ∨ _) | (with_reducible show _ < _) | (with_reducible show G _ _ _ _))
                 first
                 | show G _ _ _ _
                 | (intro (Z2 : ZT) hZ2; have hZ3 : Z' = Z2 := hZ2.symm; subst hZ3)
                 | (intro (Z2 : ZT) hZ2; have hZ3 : Z1 = Z2 := hZ2.symm; subst hZ3)
                 | (intro (Z2 : ZT) hZ2; have hZ3 : Z = Z2 := hZ2.symm; subst hZ3)
                 | (refine ld_bnd (by first | with_reducible assumption | assumption) rfl ?_; intro _ _ _ _)
                 | (refine st_bnd (by first | with_reducible assumption | assumption) (by first | with_reducible assumption | assumption) (by decide) (fun lo hi hb => by first | (cases hb; done) | (cases hb; constructor <;> (first | omega | (simp (disch := omega) only [w32_id, w64_id]; omega) | (simp (disch := omega) only [w32_id, w64_id] at *; omega) | (simp only [w32, w64] at *; omega) | exact (and32_le (by omega) (by omega)).1 | exact (and32_le (by omega) (by omega)).2 | exact (mulR (by omega) (by omega) (by omega) (by omega)).1 | exact (mulR (by omega) (by omega) (by omega) (by omega)).2 | (subst_vars; simp [upZ] at *; omega) | (subst_vars; simp [upZ] at *; simp only [w32, w64] at *; omega)))) ?_; intro Z' _ _ _)
                 | (intro (r : Option PV) σ' hq
                    first
                    | (obtain ⟨rfl, rfl⟩ := hq)
                    | (obtain ⟨Z', x, rfl, rfl, hI2, hk2, hl2, hu2⟩ := hq; have hk3 := keeps_to (by first | with_reducible assumption | assumption) (by rfl) hk2; clear hk2)
                    | (obtain ⟨Z', x, rfl, rfl, hI2, hk2⟩ := hq; have hk3 := keeps_to (by first | with_reducible assumption | assumption) (by rfl) hk2; clear hk2)
                    | (rcases hq with ⟨Z', rfl, rfl, hI2, hk2⟩ | ⟨Z', rfl, rfl, hI2, hk2⟩ <;> (have hk3 := keeps_to (by first | with_reducible assumption | assumption) (by rfl) hk2; clear hk2))
                    | (obtain ⟨Z', rfl, rfl, hI2, hk2⟩ := hq; have hk3 := keeps_to (by first | with_reducible assumption | assumption) (by rfl) hk2; clear hk2))
                 | (intro hc; (try simp only [cmp3_c] at hc); simp only [cmpI] at hc)
                 | (show CI _; assumption)
                 | intro (_ : Int)
                 | intro (Z' : ZT)
                 | intro (_ : CI _)
                 | intro (_ : keeps _ _ _)
                 | intro (_ : _ ≤ _)
                 | intro (_ : _ = _)
                 | intro (_ : _ < _)
                 | intro (_ : _ ∨ _)))
          all_goals first
            | with_reducible rfl
            | ((with_reducible show _ = _); rfl)
            | ((with_reducible show recvG _ _); rfl)
            | with_reducible exact trivial
            | ((fail_if_success (first | (with_reducible show _ ≤ _) | (with_reducible show _ = _) | (with_reducible show _ ∨ _) | (with_reducible show _ < _) | (with_reducible show G _ _ _ _))); (refine Exists.intro _ (And.intro rfl (And.intro rfl (And.intro ?_ ?_)))) <;> with_reducible assumption)
            | ((with_reducible show G 3 _ _ _); exact hG.2 3 _ [(0, vr 88), (1, vr 2), (2, vr 86), (3, vi a3), (4, vi _)] _ _ rfl (ih3 _ _ (by assumption) (by assumption) (by refine ⟨by first | omega | (refine ⟨?_, ?_⟩ <;> (first | omega | (simp (disch := omega) only [w32_id, w64_id]; omega) | (simp (disch := omega) only [w32_id, w64_id] at *; omega) | (simp only [w32, w64] at *; omega) | exact (and32_le (by omega) (by omega)).1 | exact (and32_le (by omega) (by omega)).2 | exact (mulR (by omega) (by omega) (by omega) (by omega)).1 | exact (mulR (by omega) (by omega) (by omega) (by omega)).2 | (subst_vars; simp [upZ] at *; omega) | (subst_vars; simp [upZ] at *; simp only [w32, w64] at *; omega))) | (first | omega | (simp (disch := omega) only [w32_id, w64_id]; omega) | (simp (disch := omega) only [w32_id, w64_id] at *; omega) | (simp only [w32, w64] at *; omega) | exact (and32_le (by omega) (by omega)).1 | exact (and32_le (by omega) (by omega)).2 | exact (mulR (by omega) (by omega) (by omega) (by omega)).1 | exact (mulR (by omega) (by omega) (by omega) (by omega)).2 | (subst_vars; simp [upZ] at *; omega) | (subst_vars; simp [upZ] at *; simp only [w32, w64] at *; omega)), trivial⟩) (by first | omega | (simp (disch := omega) only [w32_id, w64_id]; omega) | (simp (disch := omega) only [w32_id, w64_id] at *; omega) | (simp only [w32, w64] at *; omega) | exact (and32_le (by omega) (by omega)).1 | exact (and32_le (by omega) (by omega)).2 | exact (mulR (by omega) (by omega) (by omega) (by omega)).1 | exact (mulR (by omega) (by omega) (by omega) (by omega)).2 | (subst_vars; simp [upZ] at *; omega) | (subst_vars; simp [upZ] at *; simp only [w32, w64] at *; omega))))
            | ((fail_if_success (first | (with_reducible show _ ≤ _) | (with_reducible show _ = _) | (with_reducible show _ ∨ _) | (with_reducible show _ < _) | (with_reducible show G _ _ _ _))); exact Exists.intro _ (Exists.intro _ ⟨rfl, rfl, by assumption, by assumption, by (first | omega | (simp (disch := omega) only [w32_id, w64_id]; omega) | (simp (disch := omega) only [w32_id, w64_id] at *; omega) | (simp only [w32, w64] at *; omega) | exact (and32_le (by omega) (by omega)).1 | exact (and32_le (by omega) (by omega)).2 | exact (mulR (by omega) (by omega) (by omega) (by omega)).1 | exact (mulR (by omega) (by omega) (by omega) (by omega)).2 | (subst_vars; simp [upZ] at *; omega) | (subst_vars; simp [upZ] at *; simp only [w32, w64] at *; omega)), by (first | omega | (simp (disch := omega) only [w32_id, w64_id]; omega) | (simp (disch := omega) only [w32_id, w64_id] at *; omega) | (simp only [w32, w64] at *; omega) | exact (and32_le (by omega) (by omega)).1 | exact (and32_le (by omega) (by omega)).2 | exact (mulR (by omega) (by omega) (by omega) (by omega)).1 | exact (mulR (by omega) (by omega) (by omega) (by omega)).2 | (subst_vars; simp [upZ] at *; omega) | (subst_vars; simp [upZ] at *; simp only [w32, w64] at *; omega))⟩))
            | ((fail_if_success (first | (with_reducible show _ ≤ _) | (with_reducible show _ = _) | (with_reducible show _ ∨ _) | (with_reducible show _ < _) | (with_reducible show G _ _ _ _))); exact Exists.intro _ (Exists.intro _ ⟨rfl, rfl, by assumption, by assumption⟩))
            | ((fail_if_success (first | (with_reducible show _ ≤ _) | (with_reducible show _ = _) | (with_reducible show _ ∨ _) | (with_reducible show _ < _) | (with_reducible show G _ _ _ _))); exact Exists.intro _ ⟨rfl, rfl, by assumption, by assumption⟩)
            | ((fail_if_success (first | (with_reducible show _ ≤ _) | (with_reducible show _ = _) | (with_reducible show _ ∨ _) | (with_reducible show _ < _) | (with_reducible show G _ _ _ _))); exact Or.inl (Exists.intro _ ⟨rfl, rfl, by assumption, by assumption⟩))
            | ((fail_if_success (first | (with_reducible show _ ≤ _) | (with_reducible show _ = _) | (with_reducible show _ ∨ _) | (with_reducible show _ < _) | (with_reducible show G _ _ _ _))); exact Or.inr (Exists.intro _ ⟨rfl, rfl, by assumption, by assumption⟩))
            | omega
            | rfl
            | exact trivial
            | decide
            | (show (0 : Int) < _; omega)
            | (show (0 : Int) < _; simp only [w64] at *; omega)
            | (simp only [w32, w64] at *; omega)
            | (first | omega | (simp (disch := omega) only [w32_id, w64_id]; omega) | (simp (disch := omega) only [w32_id, w64_id] at *; omega) | (simp only [w32, w64] at *; omega) | exact (and32_le (by omega) (by omega)).1 | exact (and32_le (by omega) (by omega)).2 | exact (mulR (by omega) (by omega) (by omega) (by omega)).1 | exact (mulR (by omega) (by omega) (by omega) (by omega)).2 | (subst_vars; simp [upZ] at *; omega) | (subst_vars; simp [upZ] at *; simp only [w32, w64] at *; omega))
            | skip
    refine wq_run hG n R0 [3] 900 _ _ _ _ ?_
    repeat' (first
        | with_reducible rfl
        | refine And.intro ?_ ?_
        | with_reducible exact True.intro
        | ((with_reducible show _ = true); rfl)
        | ((with_reducible show recvG _ _); rfl)
        | ((with_reducible show CI _); first | with_reducible assumption | assumption)
        | (fail_if_success (first | (with_reducible show _ ≤ _) | (with_reducible show _ = _) | (with_reducible show _ ∨ _) | (with_reducible show _ < _) | (with_reducible show G _ _ _ _))
           first
           | show G _ _ _ _
           | (intro (Z2 : ZT) hZ2; have hZ3 : Z' = Z2 := hZ2.symm; subst hZ3)
           | (intro (Z2 : ZT) hZ2; have hZ3 : Z1 = Z2 := hZ2.symm; subst hZ3)
           | (intro (Z2 : ZT) hZ2; have hZ3 : Z = Z2 := hZ2.symm; subst hZ3)
           | (refine ld_bnd (by first | with_reducible assumption | assumption) rfl ?_; intro _ _ _ _)
           | (refine st_bnd (by first | with_reducible assumption | assumption) (by first | with_reducible assumption | assumption) (by decide) (fun lo hi hb => by first | (cases hb; done) | (cases hb; constructor <;> (first | omega | (simp (disch := omega) only [w32_id, w64_id]; omega) | (simp (disch := omega) only [w32_id, w64_id] at *; omega) | (simp only [w32, w64] at *; omega) | exact (and32_le (by omega) (by omega)).1 | exact (and32_le (by omega) (by omega)).2 | exact (mulR (by omega) (by omega) (by omega) (by omega)).1 | exact (mulR (by omega) (by omega) (by omega) (by omega)).2 | (subst_vars; simp [upZ] at *; omega) | (subst_vars; simp [upZ] at *; simp only [w32, w64] at *; omega)))) ?_; intro Z' _ _ _)
           | (intro (r : Option PV) σ' hq
              first
              | (obtain ⟨rfl, rfl⟩ := hq)
              | (obtain ⟨Z', x, rfl, rfl, hI2, hk2, hl2, hu2⟩ := hq; have hk3 := keeps_to (by first | with_reducible assumption | assumption) (by rfl) hk2; clear hk2)
              | (obtain ⟨Z', x, rfl, rfl, hI2, hk2⟩ := hq; have hk3 := keeps_to (by first | with_reducible assumption | assumption) (by rfl) hk2; clear hk2)
              | (rcases hq with ⟨Z', rfl, rfl, hI2, hk2⟩ | ⟨Z', rfl, rfl, hI2, hk2⟩ <;> (have hk3 := keeps_to (by first | with_reducible assumption | assumption) (by rfl) hk2; clear hk2))
              | (obtain ⟨Z', rfl, rfl, hI2, hk2⟩ := hq; have hk3 := keeps_to (by first | with_reducible assumption | assumption) (by rfl) hk2; clear hk2))
           | (intro hc; (try simp only [cmp3_c] at hc); simp only [cmpI] at hc)
           | (show CI _; assumption)
           | intro (_ : Int)
           | intro (Z' : ZT)
           | intro (_ : CI _)
           | intro (_ : keeps _ _ _)
           | intro (_ : _ ≤ _)
           | intro (_ : _ = _)
           | intro (_ : _ < _)
           | intro (_ : _ ∨ _)))
    all_goals (have lp3 := loop 1000000)
    all_goals first
      | with_reducible rfl
      | ((with_reducible show _ = _); rfl)
      | ((with_reducible show recvG _ _); rfl)
      | with_reducible exact trivial
      | ((fail_if_success (first | (with_reducible show _ ≤ _) | (with_reducible show _ = _) | (with_reducible show _ ∨ _) | (with_reducible show _ < _) | (with_reducible show G _ _ _ _))); (refine Exists.intro _ (And.intro rfl (And.intro rfl (And.intro ?_ ?_)))) <;> with_reducible assumption)
      | ((with_reducible show G 3 _ _ _); exact hG.2 3 _ [(0, vr 88), (1, vr 2), (2, vr 86), (3, vi a3), (4, vi _)] _ _ rfl (lp3 _ _ (by assumption) (by assumption) (by refine ⟨by first | omega | (refine ⟨?_, ?_⟩ <;> (first | omega | (simp (disch := omega) only [w32_id, w64_id]; omega) | (simp (disch := omega) only [w32_id, w64_id] at *; omega) | (simp only [w32, w64] at *; omega) | exact (and32_le (by omega) (by omega)).1 | exact (and32_le (by omega) (by omega)).2 | exact (mulR (by omega) (by omega) (by omega) (by omega)).1 | exact (mulR (by omega) (by omega) (by omega) (by omega)).2 | (subst_vars; simp [upZ] at *; omega) | (subst_vars; simp [upZ] at *; simp only [w32, w64] at *; omega))) | (first | omega | (simp (disch := omega) only [w32_id, w64_id]; omega) | (simp (disch := omega) only [w32_id, w64_id] at *; omega) | (simp only [w32, w64] at *; omega) | exact (and32_le (by omega) (by omega)).1 | exact (and32_le (by omega) (by omega)).2 | exact (mulR (by omega) (by omega) (by omega) (by omega)).1 | exact (mulR (by omega) (by omega) (by omega) (by omega)).2 | (subst_vars; simp [upZ] at *; omega) | (subst_vars; simp [upZ] at *; simp only [w32, w64] at *; omega)), trivial⟩) (by first | omega | (simp (disch := omega) only [w32_id, w64_id]; omega) | (simp (disch := omega) only [w32_id, w64_id] at *; omega) | (simp only [w32, w64] at *; omega) | exact (and32_le (by omega) (by omega)).1 | exact (and32_le (by omega) (by omega)).2 | exact (mulR (by omega) (by omega) (by omega) (by omega)).1 | exact (mulR (by omega) (by omega) (by omega) (by omega)).2 | (subst_vars; simp [upZ] at *; omega) | (subst_vars; simp [upZ] at *; simp only [w32, w64] at *; omega))))
      | ((fail_if_success (first | (with_reducible show _ ≤ _) | (with_reducible show _ = _) | (with_reducible show _ ∨ _) | (with_reducible show _ < _) | (with_reducible show G _ _ _ _))); exact Exists.intro _ (Exists.intro _ ⟨rfl, rfl, by assumption, by assumption, by (first | omega | (simp (disch := omega) only [w32_id, w64_id]; omega) | (simp (disch := omega) only [w32_id, w64_id] at *; omega) | (simp only [w32, w64] at *; omega) | exact (and32_le (by omega) (by omega)).1 | exact (and32_le (by omega) (by omega)).2 | exact (mulR (by omega) (by omega) (by omega) (by omega)).1 | exact (mulR (by omega) (by omega) (by omega) (by omega)).2 | (subst_vars; simp [upZ] at *; omega) | (subst_vars; simp [upZ] at *; simp only [w32, w64] at *; omega)), by (first | omega | (simp (disch := omega) only [w32_id, w64_id]; omega) | (simp (disch := omega) only [w32_id, w64_id] at *; omega) | (simp only [w32, w64] at *; omega) | exact (and32_le (by omega) (by omega)).1 | exact (and32_le (by omega) (by omega)).2 | exact (mulR (by omega) (by omega) (by omega) (by omega)).1 | exact (mulR (by omega) (by omega) (by omega) (by omega)).2 | (subst_vars; simp [upZ] at *; omega) | (subst_vars; simp [upZ] at *; simp only [w32, w64] at *; omega))⟩))
      | ((fail_if_success (first | (with_reducible show _ ≤ _) | (with_reducible show _ = _) | (with_reducible show _ ∨ _) | (with_reducible show _ < _) | (with_reducible show G _ _ _ _))); exact Exists.intro _ (Exists.intro _ ⟨rfl, rfl, by assumption, by assumption⟩))
      | ((fail_if_success (first | (with_reducible show _ ≤ _) | (with_reducible show _ = _) | (with_reducible show _ ∨ _) | (with_reducible show _ < _) | (with_reducible show G _ _ _ _))); exact Exists.intro _ ⟨rfl, rfl, by assumption, by assumption⟩)
      | ((fail_if_success (first | (with_reducible show _ ≤ _) | (with_reducible show _ = _) | (with_reducible show _ ∨ _) | (with_reducible show _ < _) | (with_reducible show G _ _ _ _))); exact Or.inl (Exists.intro _ ⟨rfl, rfl, by assumption, by assumption⟩))
      | ((fail_if_success (first | (with_reducible show _ ≤ _) | (with_reducible show _ = _) | (with_reducible show _ ∨ _) | (with_reducible show _ < _) | (with_reducible show G _ _ _ _))); exact Or.inr (Exists.intro _ ⟨rfl, rfl, by assumption, by assumption⟩))
      | omega
      | rfl
      | exact trivial
      | decide
      | (show (0 : Int) < _; omega)
      | (show (0 : Int) < _; simp only [w64] at *; omega)
      | (simp only [w32, w64] at *; omega)
      | (first | omega | (simp (disch := omega) only [w32_id, w64_id]; omega) | (simp (disch := omega) only [w32_id, w64_id] at *; omega) | (simp only [w32, w64] at *; omega) | exact (and32_le (by omega) (by omega)).1 | exact (and32_le (by omega) (by omega)).2 | exact (mulR (by omega) (by omega) (by omega) (by omega)).1 | exact (mulR (by omega) (by omega) (by omega) (by omega)).2 | (subst_vars; simp [upZ] at *; omega) | (subst_vars; simp [upZ] at *; simp only [w32, w64] at *; omega))
      | skip
  · have loop : ∀ fuel : Nat, (∀ (Z1 : ZT) (v4 : Int), CI Z1 → keeps ([95 + 2, 95 + 3]) Z Z1 → ((0 ≤ v4 ∧ v4 ≤ 36) ∧ True) → 37 - v4 ≤ (fuel : Int) → G 3 [(0, vr 95), (1, vr 2), (2, vr 86), (3, vi a3), (4, vi v4)] [] (n, Z1, R0)) := by
      intro fuel
      induction fuel with
      | zero => exact (by intros; omega)
      | succ fuel ih =>
        have ih3 := ih
        · intro Z1 v4 hI1 hk1 hv hm
          obtain ⟨w0, -⟩ := hv
          clear hk hI
          refine wq_run hG n R0 [3] 900 _ _ _ _ ?_
          repeat' (first
              | with_reducible rfl
              | refine And.intro ?_ ?_
              | with_reducible exact True.intro
              | ((with_reducible show _ = true); rfl)
              | ((with_reducible show recvG _ _); rfl)
              | ((with_reducible show CI _); first | with_reducible assumption | assumption)
              | (fail_if_success (first | (with_reducible show _ ≤ _) | (with_reducible show _ = _) | (with_reducible show _ ∨ _) | (with_reducible show _ < _) | (with_reducible show G _ _ _ _))
                 first
                 | show G _ _ _ _
                 | (intro (Z2 : ZT) hZ2; have hZ3 : Z' = Z2 := hZ2.symm; subst hZ3)
                 | (intro (Z2 : ZT) hZ2; have hZ3 : Z1 = Z2 := hZ2.symm; subst hZ3)
                 | (intro (Z2 : ZT) hZ2; have hZ3 : Z = Z2 := hZ2.symm; subst hZ3)
                 | (refine ld_bnd (by first | with_reducible assumption | assumption) rfl ?_; intro _ _ _ _)
                 | (refine st_bnd (by first | with_reducible assumption | assumption) (by first | with_reducible assumption | assumption) (by decide) (fun lo hi hb => by first | (cases hb; done) | (cases hb; constructor <;> (first | omega | (simp (disch := omega) only [w32_id, w64_id]; omega) | (simp (disch := omega) only [w32_id, w64_id] at *; omega) | (simp only [w32, w64] at *; omega) | exact (and32_le (by omega) (by omega)).1 | exact (and32_le (by omega) (by omega)).2 | exact (mulR (by omega) (by omega) (by omega) (by omega)).1 | exact (mulR (by omega) (by omega) (by omega) (by omega)).2 | (subst_vars; simp [upZ] at *; omega) | (subst_vars; simp [upZ] at *; simp only [w32, w64] at *; omega)))) ?_; intro Z' _ _ _)
                 | (intro (r : Option PV) σ' hq
                    first
                    | (obtain ⟨rfl, rfl⟩ := hq)
                    | (obtain ⟨Z', x, rfl, rfl, hI2, hk2, hl2, hu2⟩ := hq; have hk3 := keeps_to (by first | with_reducible assumption | assumption) (by rfl) hk2; clear hk2)
                    | (obtain ⟨Z', x, rfl, rfl, hI2, hk2⟩ := hq; have hk3 := keeps_to (by first | with_reducible assumption | assumption) (by rfl) hk2; clear hk2)
                    | (rcases hq with ⟨Z', rfl, rfl, hI2, hk2⟩ | ⟨Z', rfl, rfl, hI2, hk2⟩ <;> (have hk3 := keeps_to (by first | with_reducible assumption | assumption) (by rfl) hk2; clear hk2))
                    | (obtain ⟨Z', rfl, rfl, hI2, hk2⟩ := hq; have hk3 := keeps_to (by first | with_reducible assumption | assumption) (by rfl) hk2; clear hk2))
                 | (intro hc; (try simp only [cmp3_c] at hc); simp only [cmpI] at hc)
                 | (show CI _; assumption)
                 | intro (_ : Int)
                 | intro (Z' : ZT)
                 | intro (_ : CI _)
                 | intro (_ : keeps _ _ _)
                 | intro (_ : _ ≤ _)
                 | intro (_ : _ = _)
                 | intro (_ : _ < _)
                 | intro (_ : _ ∨ _)))
          all_goals first
            | with_reducible rfl
            | ((with_reducible show _ = _); rfl)
            | ((with_reducible show recvG _ _); rfl)
            | with_reducible exact trivial
            | ((fail_if_success (first | (with_reducible show _ ≤ _) | (with_reducible show _ = _) | (with_reducible show _ ∨ _) | (with_reducible show _ < _) | (with_reducible show G _ _ _ _))); (refine Exists.intro _ (And.intro rfl (And.intro rfl (And.intro ?_ ?_)))) <;> with_reducible assumption)
            | ((with_reducible show G 3 _ _ _); exact hG.2 3 _ [(0, vr 95), (1, vr 2), (2, vr 86), (3, vi a3), (4, vi _)] _ _ rfl (ih3 _ _ (by assumption) (by assumption) (by refine ⟨by first | omega | (refine ⟨?_, ?_⟩ <;> (first | omega | (simp (disch := omega) only [w32_id, w64_id]; omega) | (simp (disch := omega) only [w32_id, w64_id] at *; omega) | (simp only [w32, w64] at *; omega) | exact (and32_le (by omega) (by omega)).1 | exact (and32_le (by omega) (by omega)).2 | exact (mulR (by omega) (by omega) (by omega) (by omega)).1 | exact (mulR (by omega) (by omega) (by omega) (by omega)).2 | (subst_vars; simp [upZ] at *; omega) | (subst_vars; simp [upZ] at *; simp only [w32, w64] at *; omega))) | (first | omega | (simp (disch := omega) only [w32_id, w64_id]; omega) | (simp (disch := omega) only [w32_id, w64_id] at *; omega) | (simp only [w32, w64] at *; omega) | exact (and32_le (by omega) (by omega)).1 | exact (and32_le (by omega) (by omega)).2 | exact (mulR (by omega) (by omega) (by omega) (by omega)).1 | exact (mulR (by omega) (by omega) (by omega) (by omega)).2 | (subst_vars; simp [upZ] at *; omega) | (subst_vars; simp [upZ] at *; simp only [w32, w64] at *; omega)), trivial⟩) (by first | omega | (simp (disch := omega) only [w32_id, w64_id]; omega) | (simp (disch := omega) only [w32_id, w64_id] at *; omega) | (simp only [w32, w64] at *; omega) | exact (and32_le (by omega) (by omega)).1 | exact (and32_le (by omega) (by omega)).2 | exact (mulR (by omega) (by omega) (by omega) (by omega)).1 | exact (mulR (by omega) (by omega) (by omega) (by omega)).2 | (subst_vars; simp [upZ] at *; omega) | (subst_vars; simp [upZ] at *; simp only [w32, w64] at *; omega))))
            | ((fail_if_success (first | (with_reducible show _ ≤ _) | (with_reducible show _ = _) | (with_reducible show _ ∨ _) | (with_reducible show _ < _) | (with_reducible show G _ _ _ _))); exact Exists.intro _ (Exists.intro _ ⟨rfl, rfl, by assumption, by assumption, by (first | omega | (simp (disch := omega) only [w32_id, w64_id]; omega) | (simp (disch := omega) only [w32_id, w64_id] at *; omega) | (simp only [w32, w64] at *; omega) | exact (and32_le (by omega) (by omega)).1 | exact (and32_le (by omega) (by omega)).2 | exact (mulR (by omega) (by omega) (by omega) (by omega)).1 | exact (mulR (by omega) (by omega) (by omega) (by omega)).2 | (subst_vars; simp [upZ] at *; omega) | (subst_vars; simp [upZ] at *; simp only [w32, w64] at *; omega)), by (first | omega | (simp (disch := omega) only [w32_id, w64_id]; omega) | (simp (disch := omega) only [w32_id, w64_id] at *; omega) | (simp only [w32, w64] at *; omega) | exact (and32_le (by omega) (by omega)).1 | exact (and32_le (by omega) (by omega)).2 | exact (mulR (by omega) (by omega) (by omega) (by omega)).1 | exact (mulR (by omega) (by omega) (by omega) (by omega)).2 | (subst_vars; simp [upZ] at *; omega) | (subst_vars; simp [upZ] at *; simp only [w32, w64] at *; omega))⟩))
            | ((fail_if_success (first | (with_reducible show _ ≤ _) | (with_reducible show _ = _) | (with_reducible show _ ∨ _) | (with_reducible show _ < _) | (with_reducible show G _ _ _ _))); exact Exists.intro _ (Exists.intro _ ⟨rfl, rfl, by assumption, by assumption⟩))
            | ((fail_if_success (first | (with_reducible show _ ≤ _) | (with_reducible show _ = _) | (with_reducible show _ ∨ _) | (with_reducible show _ < _) | (with_reducible show G _ _ _ _))); exact Exists.intro _ ⟨rfl, rfl, by assumption, by assumption⟩)
            | ((fail_if_success (first | (with_reducible show _ ≤ _) | (with_reducible show _ = _) | (with_reducible show _ ∨ _) | (with_reducible show _ < _) | (with_reducible show G _ _ _ _))); exact Or.inl (Exists.intro _ ⟨rfl, rfl, by assumption, by assumption⟩))
            | ((fail_if_success (first | (with_reducible show _ ≤ _) | (with_reducible show _ = _) | (with_reducible show _ ∨ _) | (with_reducible show _ < _) | (with_reducible show G _ _ _ _))); exact Or.inr (Exists.intro _ ⟨rfl, rfl, by assumption, by assumption⟩))
            | omega
            | rfl
            | exact trivial
            | decide
            | (show (0 : Int) < _; omega)
            | (show (0 : Int) < _; simp only [w64] at *; omega)
            | (simp only [w32, w64] at *; omega)
            | (first | omega | (simp (disch := omega) only [w32_id, w64_id]; omega) | (simp (disch := omega) only [w32_id, w64_id] at *; omega) | (simp only [w32, w64] at *; omega) | exact (and32_le (by omega) (by omega)).1 | exact (and32_le (by omega) (by omega)).2 | exact (mulR (by omega) (by omega) (by omega) (by omega)).1 | exact (mulR (by omega) (by omega) (by omega) (by omega)).2 | (subst_vars; simp [upZ] at *; omega) | (subst_vars; simp [upZ] at *; simp only [w32, w64] at *; omega))
            | skip
    refine wq_run hG n R0 [3] 900 _ _ _ _ ?_
    repeat' (first
        | with_reducible rfl
        | refine And.intro ?_ ?_
        | with_reducible exact True.intro
        | ((with_reducible show _ = true); rfl)
        | ((with_reducible show recvG _ _); rfl)
        | ((with_reducible show CI _); first | with_reducible assumption | assumption)
        | (fail_if_success (first | (with_reducible show _ ≤ _) | (with_reducible show _ = _) | (with_reducible show _ ∨ _) | (with_reducible show _ < _) | (with_reducible show G _ _ _ _))
           first
           | show G _ _ _ _
           | (intro (Z2 : ZT) hZ2; have hZ3 : Z' = Z2 := hZ2.symm; subst hZ3)
           | (intro (Z2 : ZT) hZ2; have hZ3 : Z1 = Z2 := hZ2.symm; subst hZ3)
           | (intro (Z2 : ZT) hZ2; have hZ3 : Z = Z2 := hZ2.symm; subst hZ3)
           | (refine ld_bnd (by first | with_reducible assumption | assumption) rfl ?_; intro _ _ _ _)
           | (refine st_bnd (by first | with_reducible assumption | assumption) (by first | with_reducible assumption | assumption) (by decide) (fun lo hi hb => by first | (cases hb; done) | (cases hb; constructor <;> (first | omega | (simp (disch := omega) only [w32_id, w64_id]; omega) | (simp (disch := omega) only [w32_id, w64_id] at *; omega) | (simp only [w32, w64] at *; omega) | exact (and32_le (by omega) (by omega)).1 | exact (and32_le (by omega) (by omega)).2 | exact (mulR (by omega) (by omega) (by omega) (by omega)).1 | exact (mulR (by omega) (by omega) (by omega) (by omega)).2 | (subst_vars; simp [upZ] at *; omega) | (subst_vars; simp [upZ] at *; simp only [w32, w64] at *; omega)))) ?_; intro Z' _ _ _)
           | (intro (r : Option PV) σ' hq
              first
              | (obtain ⟨rfl, rfl⟩ := hq)
              | (obtain ⟨Z', x, rfl, rfl, hI2, hk2, hl2, hu2⟩ := hq; have hk3 := keeps_to (by first | with_reducible assumption | assumption) (by rfl) hk2; clear hk2)
              | (obtain ⟨Z', x, rfl, rfl, hI2, hk2⟩ := hq; have hk3 := keeps_to (by first | with_reducible assumption | assumption) (by rfl) hk2; clear hk2)
              | (rcases hq with ⟨Z', rfl, rfl, hI2, hk2⟩ | ⟨Z', rfl, rfl, hI2, hk2⟩ <;> (have hk3 := keeps_to (by first | with_reducible assumption | assumption) (by rfl) hk2; clear hk2))
              | (obtain ⟨Z', rfl, rfl, hI2, hk2⟩ := hq; have hk3 := keeps_to (by first | with_reducible assumption | assumption) (by rfl) hk2; clear hk2))
           | (intro hc; (try simp only [cmp3_c] at hc); simp only [cmpI] at hc)
           | (show CI _; assumption)
           | intro (_ : Int)
           | intro (Z' : ZT)
           | intro (_ : CI _)
           | intro (_ : keeps _ _ _)
           | intro (_ : _ ≤ _)
           | intro (_ : _ = _)
           | intro (_ : _ < _)
           | intro (_ : _ ∨ _)))
    all_goals (have lp3 := loop 1000000)
    all_goals first
      | with_reducible rfl
      | ((with_reducible show _ = _); rfl)
      | ((with_reducible show recvG _ _); rfl)
      | with_reducible exact trivial
      | ((fail_if_success (first | (with_reducible show _ ≤ _) | (with_reducible show _ = _) | (with_reducible show _ ∨ _) | (with_reducible show _ < _) | (with_reducible show G _ _ _ _))); (refine Exists.intro _ (And.intro rfl (And.intro rfl (And.intro ?_ ?_)))) <;> with_reducible assumption)
      | ((with_reducible show G 3 _ _ _); exact hG.2 3 _ [(0, vr 95), (1, vr 2), (2, vr 86), (3, vi a3), (4, vi _)] _ _ rfl (lp3 _ _ (by assumption) (by assumption) (by refine ⟨by first | omega | (refine ⟨?_, ?_⟩ <;> (first | omega | (simp (disch := omega) only [w32_id, w64_id]; omega) | (simp (disch := omega) only [w32_id, w64_id] at *; omega) | (simp only [w32, w64] at *; omega) | exact (and32_le (by omega) (by omega)).1 | exact (and32_le (by omega) (by omega)).2 | exact (mulR (by omega) (by omega) (by omega) (by omega)).1 | exact (mulR (by omega) (by omega) (by omega) (by omega)).2 | (subst_vars; simp [upZ] at *; omega) | (subst_vars; simp [upZ] at *; simp only [w32, w64] at *; omega))) | (first | omega | (simp (disch := omega) only [w32_id, w64_id]; omega) | (simp (disch := omega) only [w32_id, w64_id] at *; omega) | (simp only [w32, w64] at *; omega) | exact (and32_le (by omega) (by omega)).1 | exact (and32_le (by omega) (by omega)).2 | exact (mulR (by omega) (by omega) (by omega) (by omega)).1 | exact (mulR (by omega) (by omega) (by omega) (by omega)).2 | (subst_vars; simp [upZ] at *; omega) | (subst_vars; simp [upZ] at *; simp only [w32, w64] at *; omega)), trivial⟩) (by first | omega | (simp (disch := omega) only [w32_id, w64_id]; omega) | (simp (disch := omega) only [w32_id, w64_id] at *; omega) | (simp only [w32, w64] at *; omega) | exact (and32_le (by omega) (by omega)).1 | exact (and32_le (by omega) (by omega)).2 | exact (mulR (by omega) (by omega) (by omega) (by omega)).1 | exact (mulR (by omega) (by omega) (by omega) (by omega)).2 | (subst_vars; simp [upZ] at *; omega) | (subst_vars; simp [upZ] at *; simp only [w32, w64] at *; omega))))
      | ((fail_if_success (first | (with_reducible show _ ≤ _) | (with_reducible show _ = _) | (with_reducible show _ ∨ _) | (with_reducible show _ < _) | (with_reducible show G _ _ _ _))); exact Exists.intro _ (Exists.intro _ ⟨rfl, rfl, by assumption, by assumption, by (first | omega | (simp (disch := omega) only [w32_id, w64_id]; omega) | (simp (disch := omega) only [w32_id, w64_id] at *; omega) | (simp only [w32, w64] at *; omega) | exact (and32_le (by omega) (by omega)).1 | exact (and32_le (by omega) (by omega)).2 | exact (mulR (by omega) (by omega) (by omega) (by omega)).1 | exact (mulR (by omega) (by omega) (by omega) (by omega)).2 | (subst_vars; simp [upZ] at *; omega) | (subst_vars; simp [upZ] at *; simp only [w32, w64] at *; omega)), by (first | omega | (simp (disch := omega) only [w32_id, w64_id]; omega) | (simp (disch := omega) only [w32_id, w64_id] at *; omega) | (simp only [w32, w64] at *; omega) | exact (and32_le (by omega) (by omega)).1 | exact (and32_le (by omega) (by omega)).2 | exact (mulR (by omega) (by omega) (by omega) (by omega)).1 | exact (mulR (by omega) (by omega) (by omega) (by omega)).2 | (subst_vars; simp [upZ] at *; omega) | (subst_vars; simp [upZ] at *; simp only [w32, w64] at *; omega))⟩))
      | ((fail_if_success (first | (with_reducible show _ ≤ _) | (with_reducible show _ = _) | (with_reducible show _ ∨ _) | (with_reducible show _ < _) | (with_reducible show G _ _ _ _))); exact Exists.intro _ (Exists.intro _ ⟨rfl, rfl, by assumption, by assumption⟩))
      | ((fail_if_success (first | (with_reducible show _ ≤ _) | (with_reducible show _ = _) | (with_reducible show _ ∨ _) | (with_reducible show _ < _) | (with_reducible show G _ _ _ _))); exact Exists.intro _ ⟨rfl, rfl, by assumption, by assumption⟩)
      | ((fail_if_success (first | (with_reducible show _ ≤ _) | (with_reducible show _ = _) | (with_reducible show _ ∨ _) | (with_reducible show _ < _) | (with_reducible show G _ _ _ _))); exact Or.inl (Exists.intro _ ⟨rfl, rfl, by assumption, by assumption⟩))
      | ((fail_if_success (first | (with_reducible show _ ≤ _) | (with_reducible show _ = _) | (with_reducible show _ ∨ _) | (with_reducible show _ < _) | (with_reducible show G _ _ _ _))); exact Or.inr (Exists.intro _ ⟨rfl, rfl, by assumption, by assumption⟩))
      | omega
      | rfl
      | exact trivial
      | decide
      | (show (0 : Int) < _; omega)
      | (show (0 : Int) < _; simp only [w64] at *; omega)
      | (simp only [w32, w64] at *; omega)
      | (first | omega | (simp (disch := omega) only [w32_id, w64_id]; omega) | (simp (disch := omega) only [w32_id, w64_id] at *; omega) | (simp only [w32, w64] at *; omega) | exact (and32_le (by omega) (by omega)).1 | exact (and32_le (by omega) (by omega)).2 | exact (mulR (by omega) (by omega) (by omega) (by omega)).1 | exact (mulR (by omega) (by omega) (by omega) (by omega)).2 | (subst_vars; simp [upZ] at *; omega) | (subst_vars; simp [upZ] at *; simp only [w32, w64] at *; omega))
      | skip
def s_X9_reach : Sp := wspV 4 9 (fun as Z => match as with
    | [.inr (.inr a0), .inr (.inr a1), .inr (.inr a2), .inl a3] => (((a0 = 88 ∧ a1 = 2 ∧ a2 = 86) ∨ (a0 = 95 ∧ a1 = 2 ∧ a2 = 86))) ∧ (True) ∧ (True) ∧ (True) ∧ True
    | _ => False) (fun as => match as with
    | [.inr (.inr a0), .inr (.inr a1), .inr (.inr a2), .inl a3] => [a0, a0 + 2, a0 + 3]
    | _ => [])
set_option maxRecDepth 100000 in
set_option maxHeartbeats 40000000 in
theorem c_X9_reach {l : Launch} {D : va_G} {cA : Nat → ClassId} : PM l D cA yX9_reach cX9_reach 5 none 3 78 s_X9_reach := by
  refine of_X9_reach (c_X9_work) ⟨rfl, rfl⟩ (fun as σ hwf hao hpre => ?_)
  obtain ⟨n, Z, R⟩ := σ
  obtain ⟨hR, hI, hpre⟩ := hpre
  obtain rfl : R = R0 := hR
  rcases as with _ | ⟨x | x | a0, _ | ⟨x | x | a1, _ | ⟨x | x | a2, _ | ⟨a3 | x | x, _ | ⟨v, t⟩⟩⟩⟩⟩ <;> first | exact (hpre : False).elim | skip
  obtain ⟨k3l, k3u⟩ : okI a3 := hao (vi a3) (by simp)
  obtain ⟨h0, h1, h2, h3, -⟩ := hpre
  have hk : keeps ([a0, a0 + 2, a0 + 3]) Z Z := keeps_refl
  refine ⟨Nat.le_of_ble_eq_true rfl, fun G hG => ?_⟩
  clear hao hwf
  rcases h0 with ⟨rfl, rfl, rfl⟩ | ⟨rfl, rfl, rfl⟩
  · have loop : ∀ fuel : Nat, (∀ (Z1 : ZT) (v4 : Int), CI Z1 → keeps ([88, 88 + 2, 88 + 3]) Z Z1 → ((1 ≤ v4 ∧ v4 ≤ 13) ∧ True) → 14 - v4 ≤ (fuel : Int) → G 8 [(0, vr 88), (1, vr 2), (2, vr 86), (3, vi a3), (4, vi v4)] [] (n, Z1, R0)) := by
      intro fuel
      induction fuel with
      | zero => exact (by intros; omega)
      | succ fuel ih =>
        have ih8 := ih
        · intro Z1 v4 hI1 hk1 hv hm
          obtain ⟨w0, -⟩ := hv
          clear hk hI
          refine wq_run hG n R0 [8] 900 _ _ _ _ ?_
          repeat' (first
              | with_reducible rfl
              | refine And.intro ?_ ?_
              | with_reducible exact True.intro
              | ((with_reducible show _ = true); rfl)
              | ((with_reducible show recvG _ _); rfl)
              | ((with_reducible show CI _); first | with_reducible assumption | assumption)
              | (fail_if_success (first | (with_reducible show _ ≤ _) | (with_reducible show _ = _) | (with_reducible show _ ∨ _) | (with_reducible show _ < _) | (with_reducible show G _ _ _ _))
                 first
                 | show G _ _ _ _
                 | (intro (Z2 : ZT) hZ2; have hZ3 : Z' = Z2 := hZ2.symm; subst hZ3)
                 | (intro (Z2 : ZT) hZ2; have hZ3 : Z1 = Z2 := hZ2.symm; subst hZ3)
                 | (intro (Z2 : ZT) hZ2; have hZ3 : Z = Z2 := hZ2.symm; subst hZ3)
                 | (refine ld_bnd (by first | with_reducible assumption | assumption) rfl ?_; intro _ _ _ _)
                 | (refine st_bnd (by first | with_reducible assumption | assumption) (by first | with_reducible assumption | assumption) (by decide) (fun lo hi hb => by first | (cases hb; done) | (cases hb; constructor <;> (first | omega | (simp (disch := omega) only [w32_id, w64_id]; omega) | (simp (disch := omega) only [w32_id, w64_id] at *; omega) | (simp only [w32, w64] at *; omega) | exact (and32_le (by omega) (by omega)).1 | exact (and32_le (by omega) (by omega)).2 | exact (mulR (by omega) (by omega) (by omega) (by omega)).1 | exact (mulR (by omega) (by omega) (by omega) (by omega)).2 | (subst_vars; simp [upZ] at *; omega) | (subst_vars; simp [upZ] at *; simp only [w32, w64] at *; omega)))) ?_; intro Z' _ _ _)
                 | (intro (r : Option PV) σ' hq
                    first
                    | (obtain ⟨rfl, rfl⟩ := hq)
                    | (obtain ⟨Z', x, rfl, rfl, hI2, hk2, hl2, hu2⟩ := hq; have hk3 := keeps_to (by first | with_reducible assumption | assumption) (by rfl) hk2; clear hk2)
                    | (obtain ⟨Z', x, rfl, rfl, hI2, hk2⟩ := hq; have hk3 := keeps_to (by first | with_reducible assumption | assumption) (by rfl) hk2; clear hk2)
                    | (rcases hq with ⟨Z', rfl, rfl, hI2, hk2⟩ | ⟨Z', rfl, rfl, hI2, hk2⟩ <;> (have hk3 := keeps_to (by first | with_reducible assumption | assumption) (by rfl) hk2; clear hk2))
                    | (obtain ⟨Z', rfl, rfl, hI2, hk2⟩ := hq; have hk3 := keeps_to (by first | with_reducible assumption | assumption) (by rfl) hk2; clear hk2))
                 | (intro hc; (try simp only [cmp3_c] at hc); simp only [cmpI] at hc)
                 | (show CI _; assumption)
                 | intro (_ : Int)
                 | intro (Z' : ZT)
                 | intro (_ : CI _)
                 | intro (_ : keeps _ _ _)
                 | intro (_ : _ ≤ _)
                 | intro (_ : _ = _)
                 | intro (_ : _ < _)
                 | intro (_ : _ ∨ _)))
          all_goals first
            | with_reducible rfl
            | ((with_reducible show _ = _); rfl)
            | ((with_reducible show recvG _ _); rfl)
            | with_reducible exact trivial
            | ((fail_if_success (first | (with_reducible show _ ≤ _) | (with_reducible show _ = _) | (with_reducible show _ ∨ _) | (with_reducible show _ < _) | (with_reducible show G _ _ _ _))); (refine Exists.intro _ (And.intro rfl (And.intro rfl (And.intro ?_ ?_)))) <;> with_reducible assumption)
            | ((with_reducible show G 8 _ _ _); exact hG.2 8 _ [(0, vr 88), (1, vr 2), (2, vr 86), (3, vi a3), (4, vi _)] _ _ rfl (ih8 _ _ (by assumption) (by assumption) (by refine ⟨by first | omega | (refine ⟨?_, ?_⟩ <;> (first | omega | (simp (disch := omega) only [w32_id, w64_id]; omega) | (simp (disch := omega) only [w32_id, w64_id] at *; omega) | (simp only [w32, w64] at *; omega) | exact (and32_le (by omega) (by omega)).1 | exact (and32_le (by omega) (by omega)).2 | exact (mulR (by omega) (by omega) (by omega) (by omega)).1 | exact (mulR (by omega) (by omega) (by omega) (by omega)).2 | (subst_vars; simp [upZ] at *; omega) | (subst_vars; simp [upZ] at *; simp only [w32, w64] at *; omega))) | (first | omega | (simp (disch := omega) only [w32_id, w64_id]; omega) | (simp (disch := omega) only [w32_id, w64_id] at *; omega) | (simp only [w32, w64] at *; omega) | exact (and32_le (by omega) (by omega)).1 | exact (and32_le (by omega) (by omega)).2 | exact (mulR (by omega) (by omega) (by omega) (by omega)).1 | exact (mulR (by omega) (by omega) (by omega) (by omega)).2 | (subst_vars; simp [upZ] at *; omega) | (subst_vars; simp [upZ] at *; simp only [w32, w64] at *; omega)), trivial⟩) (by first | omega | (simp (disch := omega) only [w32_id, w64_id]; omega) | (simp (disch := omega) only [w32_id, w64_id] at *; omega) | (simp only [w32, w64] at *; omega) | exact (and32_le (by omega) (by omega)).1 | exact (and32_le (by omega) (by omega)).2 | exact (mulR (by omega) (by omega) (by omega) (by omega)).1 | exact (mulR (by omega) (by omega) (by omega) (by omega)).2 | (subst_vars; simp [upZ] at *; omega) | (subst_vars; simp [upZ] at *; simp only [w32, w64] at *; omega))))
            | ((fail_if_success (first | (with_reducible show _ ≤ _) | (with_reducible show _ = _) | (with_reducible show _ ∨ _) | (with_reducible show _ < _) | (with_reducible show G _ _ _ _))); exact Exists.intro _ (Exists.intro _ ⟨rfl, rfl, by assumption, by assumption, by (first | omega | (simp (disch := omega) only [w32_id, w64_id]; omega) | (simp (disch := omega) only [w32_id, w64_id] at *; omega) | (simp only [w32, w64] at *; omega) | exact (and32_le (by omega) (by omega)).1 | exact (and32_le (by omega) (by omega)).2 | exact (mulR (by omega) (by omega) (by omega) (by omega)).1 | exact (mulR (by omega) (by omega) (by omega) (by omega)).2 | (subst_vars; simp [upZ] at *; omega) | (subst_vars; simp [upZ] at *; simp only [w32, w64] at *; omega)), by (first | omega | (simp (disch := omega) only [w32_id, w64_id]; omega) | (simp (disch := omega) only [w32_id, w64_id] at *; omega) | (simp only [w32, w64] at *; omega) | exact (and32_le (by omega) (by omega)).1 | exact (and32_le (by omega) (by omega)).2 | exact (mulR (by omega) (by omega) (by omega) (by omega)).1 | exact (mulR (by omega) (by omega) (by omega) (by omega)).2 | (subst_vars; simp [upZ] at *; omega) | (subst_vars; simp [upZ] at *; simp only [w32, w64] at *; omega))⟩))
            | ((fail_if_success (first | (with_reducible show _ ≤ _) | (with_reducible show _ = _) | (with_reducible show _ ∨ _) | (with_reducible show _ < _) | (with_reducible show G _ _ _ _))); exact Exists.intro _ (Exists.intro _ ⟨rfl, rfl, by assumption, by assumption⟩))
            | ((fail_if_success (first | (with_reducible show _ ≤ _) | (with_reducible show _ = _) | (with_reducible show _ ∨ _) | (with_reducible show _ < _) | (with_reducible show G _ _ _ _))); exact Exists.intro _ ⟨rfl, rfl, by assumption, by assumption⟩)
            | ((fail_if_success (first | (with_reducible show _ ≤ _) | (with_reducible show _ = _) | (with_reducible show _ ∨ _) | (with_reducible show _ < _) | (with_reducible show G _ _ _ _))); exact Or.inl (Exists.intro _ ⟨rfl, rfl, by assumption, by assumption⟩))
            | ((fail_if_success (first | (with_reducible show _ ≤ _) | (with_reducible show _ = _) | (with_reducible show _ ∨ _) | (with_reducible show _ < _) | (with_reducible show G _ _ _ _))); exact Or.inr (Exists.intro _ ⟨rfl, rfl, by assumption, by assumption⟩))
            | omega
            | rfl
            | exact trivial
            | decide
            | (show (0 : Int) < _; omega)
            | (show (0 : Int) < _; simp only [w64] at *; omega)
            | (simp only [w32, w64] at *; omega)
            | (first | omega | (simp (disch := omega) only [w32_id, w64_id]; omega) | (simp (disch := omega) only [w32_id, w64_id] at *; omega) | (simp only [w32, w64] at *; omega) | exact (and32_le (by omega) (by omega)).1 | exact (and32_le (by omega) (by omega)).2 | exact (mulR (by omega) (by omega) (by omega) (by omega)).1 | exact (mulR (by omega) (by omega) (by omega) (by omega)).2 | (subst_vars; simp [upZ] at *; omega) | (subst_vars; simp [upZ] at *; simp only [w32, w64] at *; omega))
            | skip
    refine wq_run hG n R0 [8] 900 _ _ _ _ ?_
    repeat' (first
        | with_reducible rfl
        | refine And.intro ?_ ?_
        | with_reducible exact True.intro
        | ((with_reducible show _ = true); rfl)
        | ((with_reducible show recvG _ _); rfl)
        | ((with_reducible show CI _); first | with_reducible assumption | assumption)
        | (fail_if_success (first | (with_reducible show _ ≤ _) | (with_reducible show _ = _) | (with_reducible show _ ∨ _) | (with_reducible show _ < _) | (with_reducible show G _ _ _ _))
           first
           | show G _ _ _ _
           | (intro (Z2 : ZT) hZ2; have hZ3 : Z' = Z2 := hZ2.symm; subst hZ3)
           | (intro (Z2 : ZT) hZ2; have hZ3 : Z1 = Z2 := hZ2.symm; subst hZ3)
           | (intro (Z2 : ZT) hZ2; have hZ3 : Z = Z2 := hZ2.symm; subst hZ3)
           | (refine ld_bnd (by first | with_reducible assumption | assumption) rfl ?_; intro _ _ _ _)
           | (refine st_bnd (by first | with_reducible assumption | assumption) (by first | with_reducible assumption | assumption) (by decide) (fun lo hi hb => by first | (cases hb; done) | (cases hb; constructor <;> (first | omega | (simp (disch := omega) only [w32_id, w64_id]; omega) | (simp (disch := omega) only [w32_id, w64_id] at *; omega) | (simp only [w32, w64] at *; omega) | exact (and32_le (by omega) (by omega)).1 | exact (and32_le (by omega) (by omega)).2 | exact (mulR (by omega) (by omega) (by omega) (by omega)).1 | exact (mulR (by omega) (by omega) (by omega) (by omega)).2 | (subst_vars; simp [upZ] at *; omega) | (subst_vars; simp [upZ] at *; simp only [w32, w64] at *; omega)))) ?_; intro Z' _ _ _)
           | (intro (r : Option PV) σ' hq
              first
              | (obtain ⟨rfl, rfl⟩ := hq)
              | (obtain ⟨Z', x, rfl, rfl, hI2, hk2, hl2, hu2⟩ := hq; have hk3 := keeps_to (by first | with_reducible assumption | assumption) (by rfl) hk2; clear hk2)
              | (obtain ⟨Z', x, rfl, rfl, hI2, hk2⟩ := hq; have hk3 := keeps_to (by first | with_reducible assumption | assumption) (by rfl) hk2; clear hk2)
              | (rcases hq with ⟨Z', rfl, rfl, hI2, hk2⟩ | ⟨Z', rfl, rfl, hI2, hk2⟩ <;> (have hk3 := keeps_to (by first | with_reducible assumption | assumption) (by rfl) hk2; clear hk2))
              | (obtain ⟨Z', rfl, rfl, hI2, hk2⟩ := hq; have hk3 := keeps_to (by first | with_reducible assumption | assumption) (by rfl) hk2; clear hk2))
           | (intro hc; (try simp only [cmp3_c] at hc); simp only [cmpI] at hc)
           | (show CI _; assumption)
           | intro (_ : Int)
           | intro (Z' : ZT)
           | intro (_ : CI _)
           | intro (_ : keeps _ _ _)
           | intro (_ : _ ≤ _)
           | intro (_ : _ = _)
           | intro (_ : _ < _)
           | intro (_ : _ ∨ _)))
    all_goals (have lp8 := loop 1000000)
    all_goals first
      | with_reducible rfl
      | ((with_reducible show _ = _); rfl)
      | ((with_reducible show recvG _ _); rfl)
      | with_reducible exact trivial
      | ((fail_if_success (first | (with_reducible show _ ≤ _) | (with_reducible show _ = _) | (with_reducible show _ ∨ _) | (with_reducible show _ < _) | (with_reducible show G _ _ _ _))); (refine Exists.intro _ (And.intro rfl (And.intro rfl (And.intro ?_ ?_)))) <;> with_reducible assumption)
      | ((with_reducible show G 8 _ _ _); exact hG.2 8 _ [(0, vr 88), (1, vr 2), (2, vr 86), (3, vi a3), (4, vi _)] _ _ rfl (lp8 _ _ (by assumption) (by assumption) (by refine ⟨by first | omega | (refine ⟨?_, ?_⟩ <;> (first | omega | (simp (disch := omega) only [w32_id, w64_id]; omega) | (simp (disch := omega) only [w32_id, w64_id] at *; omega) | (simp only [w32, w64] at *; omega) | exact (and32_le (by omega) (by omega)).1 | exact (and32_le (by omega) (by omega)).2 | exact (mulR (by omega) (by omega) (by omega) (by omega)).1 | exact (mulR (by omega) (by omega) (by omega) (by omega)).2 | (subst_vars; simp [upZ] at *; omega) | (subst_vars; simp [upZ] at *; simp only [w32, w64] at *; omega))) | (first | omega | (simp (disch := omega) only [w32_id, w64_id]; omega) | (simp (disch := omega) only [w32_id, w64_id] at *; omega) | (simp only [w32, w64] at *; omega) | exact (and32_le (by omega) (by omega)).1 | exact (and32_le (by omega) (by omega)).2 | exact (mulR (by omega) (by omega) (by omega) (by omega)).1 | exact (mulR (by omega) (by omega) (by omega) (by omega)).2 | (subst_vars; simp [upZ] at *; omega) | (subst_vars; simp [upZ] at *; simp only [w32, w64] at *; omega)), trivial⟩) (by first | omega | (simp (disch := omega) only [w32_id, w64_id]; omega) | (simp (disch := omega) only [w32_id, w64_id] at *; omega) | (simp only [w32, w64] at *; omega) | exact (and32_le (by omega) (by omega)).1 | exact (and32_le (by omega) (by omega)).2 | exact (mulR (by omega) (by omega) (by omega) (by omega)).1 | exact (mulR (by omega) (by omega) (by omega) (by omega)).2 | (subst_vars; simp [upZ] at *; omega) | (subst_vars; simp [upZ] at *; simp only [w32, w64] at *; omega))))
      | ((fail_if_success (first | (with_reducible show _ ≤ _) | (with_reducible show _ = _) | (with_reducible show _ ∨ _) | (with_reducible show _ < _) | (with_reducible show G _ _ _ _))); exact Exists.intro _ (Exists.intro _ ⟨rfl, rfl, by assumption, by assumption, by (first | omega | (simp (disch := omega) only [w32_id, w64_id]; omega) | (simp (disch := omega) only [w32_id, w64_id] at *; omega) | (simp only [w32, w64] at *; omega) | exact (and32_le (by omega) (by omega)).1 | exact (and32_le (by omega) (by omega)).2 | exact (mulR (by omega) (by omega) (by omega) (by omega)).1 | exact (mulR (by omega) (by omega) (by omega) (by omega)).2 | (subst_vars; simp [upZ] at *; omega) | (subst_vars; simp [upZ] at *; simp only [w32, w64] at *; omega)), by (first | omega | (simp (disch := omega) only [w32_id, w64_id]; omega) | (simp (disch := omega) only [w32_id, w64_id] at *; omega) | (simp only [w32, w64] at *; omega) | exact (and32_le (by omega) (by omega)).1 | exact (and32_le (by omega) (by omega)).2 | exact (mulR (by omega) (by omega) (by omega) (by omega)).1 | exact (mulR (by omega) (by omega) (by omega) (by omega)).2 | (subst_vars; simp [upZ] at *; omega) | (subst_vars; simp [upZ] at *; simp only [w32, w64] at *; omega))⟩))
      | ((fail_if_success (first | (with_reducible show _ ≤ _) | (with_reducible show _ = _) | (with_reducible show _ ∨ _) | (with_reducible show _ < _) | (with_reducible show G _ _ _ _))); exact Exists.intro _ (Exists.intro _ ⟨rfl, rfl, by assumption, by assumption⟩))
      | ((fail_if_success (first | (with_reducible show _ ≤ _) | (with_reducible show _ = _) | (with_reducible show _ ∨ _) | (with_reducible show _ < _) | (with_reducible show G _ _ _ _))); exact Exists.intro _ ⟨rfl, rfl, by assumption, by assumption⟩)
      | ((fail_if_success (first | (with_reducible show _ ≤ _) | (with_reducible show _ = _) | (with_reducible show _ ∨ _) | (with_reducible show _ < _) | (with_reducible show G _ _ _ _))); exact Or.inl (Exists.intro _ ⟨rfl, rfl, by assumption, by assumption⟩))
      | ((fail_if_success (first | (with_reducible show _ ≤ _) | (with_reducible show _ = _) | (with_reducible show _ ∨ _) | (with_reducible show _ < _) | (with_reducible show G _ _ _ _))); exact Or.inr (Exists.intro _ ⟨rfl, rfl, by assumption, by assumption⟩))
      | omega
      | rfl
      | exact trivial
      | decide
      | (show (0 : Int) < _; omega)
      | (show (0 : Int) < _; simp only [w64] at *; omega)
      | (simp only [w32, w64] at *; omega)
      | (first | omega | (simp (disch := omega) only [w32_id, w64_id]; omega) | (simp (disch := omega) only [w32_id, w64_id] at *; omega) | (simp only [w32, w64] at *; omega) | exact (and32_le (by omega) (by omega)).1 | exact (and32_le (by omega) (by omega)).2 | exact (mulR (by omega) (by omega) (by omega) (by omega)).1 | exact (mulR (by omega) (by omega) (by omega) (by omega)).2 | (subst_vars; simp [upZ] at *; omega) | (subst_vars; simp [upZ] at *; simp only [w32, w64] at *; omega))
      | skip
  · have loop : ∀ fuel : Nat, (∀ (Z1 : ZT) (v4 : Int), CI Z1 → keeps ([95, 95 + 2, 95 + 3]) Z Z1 → ((1 ≤ v4 ∧ v4 ≤ 13) ∧ True) → 14 - v4 ≤ (fuel : Int) → G 8 [(0, vr 95), (1, vr 2), (2, vr 86), (3, vi a3), (4, vi v4)] [] (n, Z1, R0)) := by
      intro fuel
      induction fuel with
      | zero => exact (by intros; omega)
      | succ fuel ih =>
        have ih8 := ih
        · intro Z1 v4 hI1 hk1 hv hm
          obtain ⟨w0, -⟩ := hv
          clear hk hI
          refine wq_run hG n R0 [8] 900 _ _ _ _ ?_
          repeat' (first
              | with_reducible rfl
              | refine And.intro ?_ ?_
              | with_reducible exact True.intro
              | ((with_reducible show _ = true); rfl)
              | ((with_reducible show recvG _ _); rfl)
              | ((with_reducible show CI _); first | with_reducible assumption | assumption)
              | (fail_if_success (first | (with_reducible show _ ≤ _) | (with_reducible show _ = _) | (with_reducible show _ ∨ _) | (with_reducible show _ < _) | (with_reducible show G _ _ _ _))
                 first
                 | show G _ _ _ _
                 | (intro (Z2 : ZT) hZ2; have hZ3 : Z' = Z2 := hZ2.symm; subst hZ3)
                 | (intro (Z2 : ZT) hZ2; have hZ3 : Z1 = Z2 := hZ2.symm; subst hZ3)
                 | (intro (Z2 : ZT) hZ2; have hZ3 : Z = Z2 := hZ2.symm; subst hZ3)
                 | (refine ld_bnd (by first | with_reducible assumption | assumption) rfl ?_; intro _ _ _ _)
                 | (refine st_bnd (by first | with_reducible assumption | assumption) (by first | with_reducible assumption | assumption) (by decide) (fun lo hi hb => by first | (cases hb; done) | (cases hb; constructor <;> (first | omega | (simp (disch := omega) only [w32_id, w64_id]; omega) | (simp (disch := omega) only [w32_id, w64_id] at *; omega) | (simp only [w32, w64] at *; omega) | exact (and32_le (by omega) (by omega)).1 | exact (and32_le (by omega) (by omega)).2 | exact (mulR (by omega) (by omega) (by omega) (by omega)).1 | exact (mulR (by omega) (by omega) (by omega) (by omega)).2 | (subst_vars; simp [upZ] at *; omega) | (subst_vars; simp [upZ] at *; simp only [w32, w64] at *; omega)))) ?_; intro Z' _ _ _)
                 | (intro (r : Option PV) σ' hq
                    first
                    | (obtain ⟨rfl, rfl⟩ := hq)
                    | (obtain ⟨Z', x, rfl, rfl, hI2, hk2, hl2, hu2⟩ := hq; have hk3 := keeps_to (by first | with_reducible assumption | assumption) (by rfl) hk2; clear hk2)
                    | (obtain ⟨Z', x, rfl, rfl, hI2, hk2⟩ := hq; have hk3 := keeps_to (by first | with_reducible assumption | assumption) (by rfl) hk2; clear hk2)
                    | (rcases hq with ⟨Z', rfl, rfl, hI2, hk2⟩ | ⟨Z', rfl, rfl, hI2, hk2⟩ <;> (have hk3 := keeps_to (by first | with_reducible assumption | assumption) (by rfl) hk2; clear hk2))
                    | (obtain ⟨Z', rfl, rfl, hI2, hk2⟩ := hq; have hk3 := keeps_to (by first | with_reducible assumption | assumption) (by rfl) hk2; clear hk2))
                 | (intro hc; (try simp only [cmp3_c] at hc); simp only [cmpI] at hc)
                 | (show CI _; assumption)
                 | intro (_ : Int)
                 | intro (Z' : ZT)
                 | intro (_ : CI _)
                 | intro (_ : keeps _ _ _)
                 | intro (_ : _ ≤ _)
                 | intro (_ : _ = _)
                 | intro (_ : _ < _)
                 | intro (_ : _ ∨ _)))
          all_goals first
            | with_reducible rfl
            | ((with_reducible show _ = _); rfl)
            | ((with_reducible show recvG _ _); rfl)
            | with_reducible exact trivial
            | ((fail_if_success (first | (with_reducible show _ ≤ _) | (with_reducible show _ = _) | (with_reducible show _ ∨ _) | (with_reducible show _ < _) | (with_reducible show G _ _ _ _))); (refine Exists.intro _ (And.intro rfl (And.intro rfl (And.intro ?_ ?_)))) <;> with_reducible assumption)
            | ((with_reducible show G 8 _ _ _); exact hG.2 8 _ [(0, vr 95), (1, vr 2), (2, vr 86), (3, vi a3), (4, vi _)] _ _ rfl (ih8 _ _ (by assumption) (by assumption) (by refine ⟨by first | omega | (refine ⟨?_, ?_⟩ <;> (first | omega | (simp (disch := omega) only [w32_id, w64_id]; omega) | (simp (disch := omega) only [w32_id, w64_id] at *; omega) | (simp only [w32, w64] at *; omega) | exact (and32_le (by omega) (by omega)).1 | exact (and32_le (by omega) (by omega)).2 | exact (mulR (by omega) (by omega) (by omega) (by omega)).1 | exact (mulR (by omega) (by omega) (by omega) (by omega)).2 | (subst_vars; simp [upZ] at *; omega) | (subst_vars; simp [upZ] at *; simp only [w32, w64] at *; omega))) | (first | omega | (simp (disch := omega) only [w32_id, w64_id]; omega) | (simp (disch := omega) only [w32_id, w64_id] at *; omega) | (simp only [w32, w64] at *; omega) | exact (and32_le (by omega) (by omega)).1 | exact (and32_le (by omega) (by omega)).2 | exact (mulR (by omega) (by omega) (by omega) (by omega)).1 | exact (mulR (by omega) (by omega) (by omega) (by omega)).2 | (subst_vars; simp [upZ] at *; omega) | (subst_vars; simp [upZ] at *; simp only [w32, w64] at *; omega)), trivial⟩) (by first | omega | (simp (disch := omega) only [w32_id, w64_id]; omega) | (simp (disch := omega) only [w32_id, w64_id] at *; omega) | (simp only [w32, w64] at *; omega) | exact (and32_le (by omega) (by omega)).1 | exact (and32_le (by omega) (by omega)).2 | exact (mulR (by omega) (by omega) (by omega) (by omega)).1 | exact (mulR (by omega) (by omega) (by omega) (by omega)).2 | (subst_vars; simp [upZ] at *; omega) | (subst_vars; simp [upZ] at *; simp only [w32, w64] at *; omega))))
            | ((fail_if_success (first | (with_reducible show _ ≤ _) | (with_reducible show _ = _) | (with_reducible show _ ∨ _) | (with_reducible show _ < _) | (with_reducible show G _ _ _ _))); exact Exists.intro _ (Exists.intro _ ⟨rfl, rfl, by assumption, by assumption, by (first | omega | (simp (disch := omega) only [w32_id, w64_id]; omega) | (simp (disch := omega) only [w32_id, w64_id] at *; omega) | (simp only [w32, w64] at *; omega) | exact (and32_le (by omega) (by omega)).1 | exact (and32_le (by omega) (by omega)).2 | exact (mulR (by omega) (by omega) (by omega) (by omega)).1 | exact (mulR (by omega) (by omega) (by omega) (by omega)).2 | (subst_vars; simp [upZ] at *; omega) | (subst_vars; simp [upZ] at *; simp only [w32, w64] at *; omega)), by (first | omega | (simp (disch := omega) only [w32_id, w64_id]; omega) | (simp (disch := omega) only [w32_id, w64_id] at *; omega) | (simp only [w32, w64] at *; omega) | exact (and32_le (by omega) (by omega)).1 | exact (and32_le (by omega) (by omega)).2 | exact (mulR (by omega) (by omega) (by omega) (by omega)).1 | exact (mulR (by omega) (by omega) (by omega) (by omega)).2 | (subst_vars; simp [upZ] at *; omega) | (subst_vars; simp [upZ] at *; simp only [w32, w64] at *; omega))⟩))
            | ((fail_if_success (first | (with_reducible show _ ≤ _) | (with_reducible show _ = _) | (with_reducible show _ ∨ _) | (with_reducible show _ < _) | (with_reducible show G _ _ _ _))); exact Exists.intro _ (Exists.intro _ ⟨rfl, rfl, by assumption, by assumption⟩))
            | ((fail_if_success (first | (with_reducible show _ ≤ _) | (with_reducible show _ = _) | (with_reducible show _ ∨ _) | (with_reducible show _ < _) | (with_reducible show G _ _ _ _))); exact Exists.intro _ ⟨rfl, rfl, by assumption, by assumption⟩)
            | ((fail_if_success (first | (with_reducible show _ ≤ _) | (with_reducible show _ = _) | (with_reducible show _ ∨ _) | (with_reducible show _ < _) | (with_reducible show G _ _ _ _))); exact Or.inl (Exists.intro _ ⟨rfl, rfl, by assumption, by assumption⟩))
            | ((fail_if_success (first | (with_reducible show _ ≤ _) | (with_reducible show _ = _) | (with_reducible show _ ∨ _) | (with_reducible show _ < _) | (with_reducible show G _ _ _ _))); exact Or.inr (Exists.intro _ ⟨rfl, rfl, by assumption, by assumption⟩))
            | omega
            | rfl
            | exact trivial
            | decide
            | (show (0 : Int) < _; omega)
            | (show (0 : Int) < _; simp only [w64] at *; omega)
            | (simp only [w32, w64] at *; omega)
            | (first | omega | (simp (disch := omega) only [w32_id, w64_id]; omega) | (simp (disch := omega) only [w32_id, w64_id] at *; omega) | (simp only [w32, w64] at *; omega) | exact (and32_le (by omega) (by omega)).1 | exact (and32_le (by omega) (by omega)).2 | exact (mulR (by omega) (by omega) (by omega) (by omega)).1 | exact (mulR (by omega) (by omega) (by omega) (by omega)).2 | (subst_vars; simp [upZ] at *; omega) | (subst_vars; simp [upZ] at *; simp only [w32, w64] at *; omega))
            | skip
    refine wq_run hG n R0 [8] 900 _ _ _ _ ?_
    repeat' (first
        | with_reducible rfl
        | refine And.intro ?_ ?_
        | with_reducible exact True.intro
        | ((with_reducible show _ = true); rfl)
        | ((with_reducible show recvG _ _); rfl)
        | ((with_reducible show CI _); first | with_reducible assumption | assumption)
        | (fail_if_success (first | (with_reducible show _ ≤ _) | (with_reducible show _ = _) | (with_reducible show _ ∨ _) | (with_reducible show _ < _) | (with_reducible show G _ _ _ _))
           first
           | show G _ _ _ _
           | (intro (Z2 : ZT) hZ2; have hZ3 : Z' = Z2 := hZ2.symm; subst hZ3)
           | (intro (Z2 : ZT) hZ2; have hZ3 : Z1 = Z2 := hZ2.symm; subst hZ3)
           | (intro (Z2 : ZT) hZ2; have hZ3 : Z = Z2 := hZ2.symm; subst hZ3)
           | (refine ld_bnd (by first | with_reducible assumption | assumption) rfl ?_; intro _ _ _ _)
           | (refine st_bnd (by first | with_reducible assumption | assumption) (by first | with_reducible assumption | assumption) (by decide) (fun lo hi hb => by first | (cases hb; done) | (cases hb; constructor <;> (first | omega | (simp (disch := omega) only [w32_id, w64_id]; omega) | (simp (disch := omega) only [w32_id, w64_id] at *; omega) | (simp only [w32, w64] at *; omega) | exact (and32_le (by omega) (by omega)).1 | exact (and32_le (by omega) (by omega)).2 | exact (mulR (by omega) (by omega) (by omega) (by omega)).1 | exact (mulR (by omega) (by omega) (by omega) (by omega)).2 | (subst_vars; simp [upZ] at *; omega) | (subst_vars; simp [upZ] at *; simp only [w32, w64] at *; omega)))) ?_; intro Z' _ _ _)
           | (intro (r : Option PV) σ' hq
              first
              | (obtain ⟨rfl, rfl⟩ := hq)
              | (obtain ⟨Z', x, rfl, rfl, hI2, hk2, hl2, hu2⟩ := hq; have hk3 := keeps_to (by first | with_reducible assumption | assumption) (by rfl) hk2; clear hk2)
              | (obtain ⟨Z', x, rfl, rfl, hI2, hk2⟩ := hq; have hk3 := keeps_to (by first | with_reducible assumption | assumption) (by rfl) hk2; clear hk2)
              | (rcases hq with ⟨Z', rfl, rfl, hI2, hk2⟩ | ⟨Z', rfl, rfl, hI2, hk2⟩ <;> (have hk3 := keeps_to (by first | with_reducible assumption | assumption) (by rfl) hk2; clear hk2))
              | (obtain ⟨Z', rfl, rfl, hI2, hk2⟩ := hq; have hk3 := keeps_to (by first | with_reducible assumption | assumption) (by rfl) hk2; clear hk2))
           | (intro hc; (try simp only [cmp3_c] at hc); simp only [cmpI] at hc)
           | (show CI _; assumption)
           | intro (_ : Int)
           | intro (Z' : ZT)
           | intro (_ : CI _)
           | intro (_ : keeps _ _ _)
           | intro (_ : _ ≤ _)
           | intro (_ : _ = _)
           | intro (_ : _ < _)
           | intro (_ : _ ∨ _)))
    all_goals (have lp8 := loop 1000000)
    all_goals first
      | with_reducible rfl
      | ((with_reducible show _ = _); rfl)
      | ((with_reducible show recvG _ _); rfl)
      | with_reducible exact trivial
      | ((fail_if_success (first | (with_reducible show _ ≤ _) | (with_reducible show _ = _) | (with_reducible show _ ∨ _) | (with_reducible show _ < _) | (with_reducible show G _ _ _ _))); (refine Exists.intro _ (And.intro rfl (And.intro rfl (And.intro ?_ ?_)))) <;> with_reducible assumption)
      | ((with_reducible show G 8 _ _ _); exact hG.2 8 _ [(0, vr 95), (1, vr 2), (2, vr 86), (3, vi a3), (4, vi _)] _ _ rfl (lp8 _ _ (by assumption) (by assumption) (by refine ⟨by first | omega | (refine ⟨?_, ?_⟩ <;> (first | omega | (simp (disch := omega) only [w32_id, w64_id]; omega) | (simp (disch := omega) only [w32_id, w64_id] at *; omega) | (simp only [w32, w64] at *; omega) | exact (and32_le (by omega) (by omega)).1 | exact (and32_le (by omega) (by omega)).2 | exact (mulR (by omega) (by omega) (by omega) (by omega)).1 | exact (mulR (by omega) (by omega) (by omega) (by omega)).2 | (subst_vars; simp [upZ] at *; omega) | (subst_vars; simp [upZ] at *; simp only [w32, w64] at *; omega))) | (first | omega | (simp (disch := omega) only [w32_id, w64_id]; omega) | (simp (disch := omega) only [w32_id, w64_id] at *; omega) | (simp only [w32, w64] at *; omega) | exact (and32_le (by omega) (by omega)).1 | exact (and32_le (by omega) (by omega)).2 | exact (mulR (by omega) (by omega) (by omega) (by omega)).1 | exact (mulR (by omega) (by omega) (by omega) (by omega)).2 | (subst_vars; simp [upZ] at *; omega) | (subst_vars; simp [upZ] at *; simp only [w32, w64] at *; omega)), trivial⟩) (by first | omega | (simp (disch := omega) only [w32_id, w64_id]; omega) | (simp (disch := omega) only [w32_id, w64_id] at *; omega) | (simp only [w32, w64] at *; omega) | exact (and32_le (by omega) (by omega)).1 | exact (and32_le (by omega) (by omega)).2 | exact (mulR (by omega) (by omega) (by omega) (by omega)).1 | exact (mulR (by omega) (by omega) (by omega) (by omega)).2 | (subst_vars; simp [upZ] at *; omega) | (subst_vars; simp [upZ] at *; simp only [w32, w64] at *; omega))))
      | ((fail_if_success (first | (with_reducible show _ ≤ _) | (with_reducible show _ = _) | (with_reducible show _ ∨ _) | (with_reducible show _ < _) | (with_reducible show G _ _ _ _))); exact Exists.intro _ (Exists.intro _ ⟨rfl, rfl, by assumption, by assumption, by (first | omega | (simp (disch := omega) only [w32_id, w64_id]; omega) | (simp (disch := omega) only [w32_id, w64_id] at *; omega) | (simp only [w32, w64] at *; omega) | exact (and32_le (by omega) (by omega)).1 | exact (and32_le (by omega) (by omega)).2 | exact (mulR (by omega) (by omega) (by omega) (by omega)).1 | exact (mulR (by omega) (by omega) (by omega) (by omega)).2 | (subst_vars; simp [upZ] at *; omega) | (subst_vars; simp [upZ] at *; simp only [w32, w64] at *; omega)), by (first | omega | (simp (disch := omega) only [w32_id, w64_id]; omega) | (simp (disch := omega) only [w32_id, w64_id] at *; omega) | (simp only [w32, w64] at *; omega) | exact (and32_le (by omega) (by omega)).1 | exact (and32_le (by omega) (by omega)).2 | exact (mulR (by omega) (by omega) (by omega) (by omega)).1 | exact (mulR (by omega) (by omega) (by omega) (by omega)).2 | (subst_vars; simp [upZ] at *; omega) | (subst_vars; simp [upZ] at *; simp only [w32, w64] at *; omega))⟩))
      | ((fail_if_success (first | (with_reducible show _ ≤ _) | (with_reducible show _ = _) | (with_reducible show _ ∨ _) | (with_reducible show _ < _) | (with_reducible show G _ _ _ _))); exact Exists.intro _ (Exists.intro _ ⟨rfl, rfl, by assumption, by assumption⟩))
      | ((fail_if_success (first | (with_reducible show _ ≤ _) | (with_reducible show _ = _) | (with_reducible show _ ∨ _) | (with_reducible show _ < _) | (with_reducible show G _ _ _ _))); exact Exists.intro _ ⟨rfl, rfl, by assumption, by assumption⟩)
      | ((fail_if_success (first | (with_reducible show _ ≤ _) | (with_reducible show _ = _) | (with_reducible show _ ∨ _) | (with_reducible show _ < _) | (with_reducible show G _ _ _ _))); exact Or.inl (Exists.intro _ ⟨rfl, rfl, by assumption, by assumption⟩))
      | ((fail_if_success (first | (with_reducible show _ ≤ _) | (with_reducible show _ = _) | (with_reducible show _ ∨ _) | (with_reducible show _ < _) | (with_reducible show G _ _ _ _))); exact Or.inr (Exists.intro _ ⟨rfl, rfl, by assumption, by assumption⟩))
      | omega
      | rfl
      | exact trivial
      | decide
      | (show (0 : Int) < _; omega)
      | (show (0 : Int) < _; simp only [w64] at *; omega)
      | (simp only [w32, w64] at *; omega)
      | (first | omega | (simp (disch := omega) only [w32_id, w64_id]; omega) | (simp (disch := omega) only [w32_id, w64_id] at *; omega) | (simp only [w32, w64] at *; omega) | exact (and32_le (by omega) (by omega)).1 | exact (and32_le (by omega) (by omega)).2 | exact (mulR (by omega) (by omega) (by omega) (by omega)).1 | exact (mulR (by omega) (by omega) (by omega) (by omega)).2 | (subst_vars; simp [upZ] at *; omega) | (subst_vars; simp [upZ] at *; simp only [w32, w64] at *; omega))
      | skip
def s_X9_deal : Sp := wspV 4 9 (fun as Z => match as with
    | [.inr (.inr a0), .inl a1, .inl a2, .inl a3] => ((a0 = 95)) ∧ (True) ∧ (True) ∧ ((0 ≤ a3 ∧ a3 ≤ 36)) ∧ True
    | _ => False) (fun as => match as with
    | [.inr (.inr a0), .inl a1, .inl a2, .inl a3] => [95, 96, 98]
    | _ => [])
set_option maxRecDepth 100000 in
set_option maxHeartbeats 40000000 in
theorem c_X9_deal {l : Launch} {D : va_G} {cA : Nat → ClassId} : PM l D cA yX9_deal cX9_deal 6 none 1 21 s_X9_deal := by
  refine of_X9_deal (c_J9_min) ⟨rfl, rfl⟩ (c_X9_restart) ⟨rfl, rfl⟩ (fun as σ hwf hao hpre => ?_)
  obtain ⟨n, Z, R⟩ := σ
  obtain ⟨hR, hI, hpre⟩ := hpre
  obtain rfl : R = R0 := hR
  rcases as with _ | ⟨x | x | a0, _ | ⟨a1 | x | x, _ | ⟨a2 | x | x, _ | ⟨a3 | x | x, _ | ⟨v, t⟩⟩⟩⟩⟩ <;> first | exact (hpre : False).elim | skip
  obtain ⟨k1l, k1u⟩ : okI a1 := hao (vi a1) (by simp)
  obtain ⟨k2l, k2u⟩ : okI a2 := hao (vi a2) (by simp)
  obtain ⟨k3l, k3u⟩ : okI a3 := hao (vi a3) (by simp)
  obtain ⟨h0, h1, h2, h3, -⟩ := hpre
  have hk : keeps ([95, 96, 98]) Z Z := keeps_refl
  refine ⟨Nat.le_of_ble_eq_true rfl, fun G hG => ?_⟩
  clear hao hwf
  obtain rfl := h0
  have loop : ∀ fuel : Nat, (∀ (Z1 : ZT) (v4 : Int) (v5 : Int), CI Z1 → keeps ([95, 96, 98]) Z Z1 → (((-1) ≤ v5 ∧ v5 ≤ 35) ∧ True) → v5 + 2 ≤ (fuel : Int) → G 13 [(0, vr 95), (1, vi a1), (2, vi a2), (3, vi a3), (4, vi v4), (5, vi v5)] [] (n, Z1, R0)) := by
    intro fuel
    induction fuel with
    | zero => exact (by intros; omega)
    | succ fuel ih =>
      have ih13 := ih
      · intro Z1 v4 v5 hI1 hk1 hv hm
        obtain ⟨w0, -⟩ := hv
        clear hk hI
        refine wq_run hG n R0 [13] 900 _ _ _ _ ?_
        repeat' (first
            | with_reducible rfl
            | refine And.intro ?_ ?_
            | with_reducible exact True.intro
            | ((with_reducible show _ = true); rfl)
            | ((with_reducible show recvG _ _); rfl)
            | ((with_reducible show CI _); first | with_reducible assumption | assumption)
            | (fail_if_success (first | (with_reducible show _ ≤ _) | (with_reducible show _ = _) | (with_reducible show _ ∨ _) | (with_reducible show _ < _) | (with_reducible show G _ _ _ _))
               first
               | show G _ _ _ _
               | (intro (Z2 : ZT) hZ2; have hZ3 : Z' = Z2 := hZ2.symm; subst hZ3)
               | (intro (Z2 : ZT) hZ2; have hZ3 : Z1 = Z2 := hZ2.symm; subst hZ3)
               | (intro (Z2 : ZT) hZ2; have hZ3 : Z = Z2 := hZ2.symm; subst hZ3)
               | (refine ld_bnd (by first | with_reducible assumption | assumption) rfl ?_; intro _ _ _ _)
               | (refine st_bnd (by first | with_reducible assumption | assumption) (by first | with_reducible assumption | assumption) (by decide) (fun lo hi hb => by first | (cases hb; done) | (cases hb; constructor <;> (first | omega | (simp (disch := omega) only [w32_id, w64_id]; omega) | (simp (disch := omega) only [w32_id, w64_id] at *; omega) | (simp only [w32, w64] at *; omega) | exact (and32_le (by omega) (by omega)).1 | exact (and32_le (by omega) (by omega)).2 | exact (mulR (by omega) (by omega) (by omega) (by omega)).1 | exact (mulR (by omega) (by omega) (by omega) (by omega)).2 | (subst_vars; simp [upZ] at *; omega) | (subst_vars; simp [upZ] at *; simp only [w32, w64] at *; omega)))) ?_; intro Z' _ _ _)
               | (intro (r : Option PV) σ' hq
                  first
                  | (obtain ⟨rfl, rfl⟩ := hq)
                  | (obtain ⟨Z', x, rfl, rfl, hI2, hk2, hl2, hu2⟩ := hq; have hk3 := keeps_to (by first | with_reducible assumption | assumption) (by rfl) hk2; clear hk2)
                  | (obtain ⟨Z', x, rfl, rfl, hI2, hk2⟩ := hq; have hk3 := keeps_to (by first | with_reducible assumption | assumption) (by rfl) hk2; clear hk2)
                  | (rcases hq with ⟨Z', rfl, rfl, hI2, hk2⟩ | ⟨Z', rfl, rfl, hI2, hk2⟩ <;> (have hk3 := keeps_to (by first | with_reducible assumption | assumption) (by rfl) hk2; clear hk2))
                  | (obtain ⟨Z', rfl, rfl, hI2, hk2⟩ := hq; have hk3 := keeps_to (by first | with_reducible assumption | assumption) (by rfl) hk2; clear hk2))
               | (intro hc; (try simp only [cmp3_c] at hc); simp only [cmpI] at hc)
               | (show CI _; assumption)
               | intro (_ : Int)
               | intro (Z' : ZT)
               | intro (_ : CI _)
               | intro (_ : keeps _ _ _)
               | intro (_ : _ ≤ _)
               | intro (_ : _ = _)
               | intro (_ : _ < _)
               | intro (_ : _ ∨ _)))
        all_goals first
          | with_reducible rfl
          | ((with_reducible show _ = _); rfl)
          | ((with_reducible show recvG _ _); rfl)
          | with_reducible exact trivial
          | ((fail_if_success (first | (with_reducible show _ ≤ _) | (with_reducible show _ = _) | (with_reducible show _ ∨ _) | (with_reducible show _ < _) | (with_reducible show G _ _ _ _))); (refine Exists.intro _ (And.intro rfl (And.intro rfl (And.intro ?_ ?_)))) <;> with_reducible assumption)
          | ((with_reducible show G 13 _ _ _); exact hG.2 13 _ [(0, vr 95), (1, vi a1), (2, vi a2), (3, vi a3), (4, vi _), (5, vi _)] _ _ rfl (ih13 _ _ _ (by assumption) (by assumption) (by refine ⟨by first | omega | (refine ⟨?_, ?_⟩ <;> (first | omega | (simp (disch := omega) only [w32_id, w64_id]; omega) | (simp (disch := omega) only [w32_id, w64_id] at *; omega) | (simp only [w32, w64] at *; omega) | exact (and32_le (by omega) (by omega)).1 | exact (and32_le (by omega) (by omega)).2 | exact (mulR (by omega) (by omega) (by omega) (by omega)).1 | exact (mulR (by omega) (by omega) (by omega) (by omega)).2 | (subst_vars; simp [upZ] at *; omega) | (subst_vars; simp [upZ] at *; simp only [w32, w64] at *; omega))) | (first | omega | (simp (disch := omega) only [w32_id, w64_id]; omega) | (simp (disch := omega) only [w32_id, w64_id] at *; omega) | (simp only [w32, w64] at *; omega) | exact (and32_le (by omega) (by omega)).1 | exact (and32_le (by omega) (by omega)).2 | exact (mulR (by omega) (by omega) (by omega) (by omega)).1 | exact (mulR (by omega) (by omega) (by omega) (by omega)).2 | (subst_vars; simp [upZ] at *; omega) | (subst_vars; simp [upZ] at *; simp only [w32, w64] at *; omega)), trivial⟩) (by first | omega | (simp (disch := omega) only [w32_id, w64_id]; omega) | (simp (disch := omega) only [w32_id, w64_id] at *; omega) | (simp only [w32, w64] at *; omega) | exact (and32_le (by omega) (by omega)).1 | exact (and32_le (by omega) (by omega)).2 | exact (mulR (by omega) (by omega) (by omega) (by omega)).1 | exact (mulR (by omega) (by omega) (by omega) (by omega)).2 | (subst_vars; simp [upZ] at *; omega) | (subst_vars; simp [upZ] at *; simp only [w32, w64] at *; omega))))
          | ((fail_if_success (first | (with_reducible show _ ≤ _) | (with_reducible show _ = _) | (with_reducible show _ ∨ _) | (with_reducible show _ < _) | (with_reducible show G _ _ _ _))); exact Exists.intro _ (Exists.intro _ ⟨rfl, rfl, by assumption, by assumption, by (first | omega | (simp (disch := omega) only [w32_id, w64_id]; omega) | (simp (disch := omega) only [w32_id, w64_id] at *; omega) | (simp only [w32, w64] at *; omega) | exact (and32_le (by omega) (by omega)).1 | exact (and32_le (by omega) (by omega)).2 | exact (mulR (by omega) (by omega) (by omega) (by omega)).1 | exact (mulR (by omega) (by omega) (by omega) (by omega)).2 | (subst_vars; simp [upZ] at *; omega) | (subst_vars; simp [upZ] at *; simp only [w32, w64] at *; omega)), by (first | omega | (simp (disch := omega) only [w32_id, w64_id]; omega) | (simp (disch := omega) only [w32_id, w64_id] at *; omega) | (simp only [w32, w64] at *; omega) | exact (and32_le (by omega) (by omega)).1 | exact (and32_le (by omega) (by omega)).2 | exact (mulR (by omega) (by omega) (by omega) (by omega)).1 | exact (mulR (by omega) (by omega) (by omega) (by omega)).2 | (subst_vars; simp [upZ] at *; omega) | (subst_vars; simp [upZ] at *; simp only [w32, w64] at *; omega))⟩))
          | ((fail_if_success (first | (with_reducible show _ ≤ _) | (with_reducible show _ = _) | (with_reducible show _ ∨ _) | (with_reducible show _ < _) | (with_reducible show G _ _ _ _))); exact Exists.intro _ (Exists.intro _ ⟨rfl, rfl, by assumption, by assumption⟩))
          | ((fail_if_success (first | (with_reducible show _ ≤ _) | (with_reducible show _ = _) | (with_reducible show _ ∨ _) | (with_reducible show _ < _) | (with_reducible show G _ _ _ _))); exact Exists.intro _ ⟨rfl, rfl, by assumption, by assumption⟩)
          | ((fail_if_success (first | (with_reducible show _ ≤ _) | (with_reducible show _ = _) | (with_reducible show _ ∨ _) | (with_reducible show _ < _) | (with_reducible show G _ _ _ _))); exact Or.inl (Exists.intro _ ⟨rfl, rfl, by assumption, by assumption⟩))
          | ((fail_if_success (first | (with_reducible show _ ≤ _) | (with_reducible show _ = _) | (with_reducible show _ ∨ _) | (with_reducible show _ < _) | (with_reducible show G _ _ _ _))); exact Or.inr (Exists.intro _ ⟨rfl, rfl, by assumption, by assumption⟩))
          | omega
          | rfl
          | exact trivial
          | decide
          | (show (0 : Int) < _; omega)
          | (show (0 : Int) < _; simp only [w64] at *; omega)
          | (simp only [w32, w64] at *; omega)
          | (first | omega | (simp (disch := omega) only [w32_id, w64_id]; omega) | (simp (disch := omega) only [w32_id, w64_id] at *; omega) | (simp only [w32, w64] at *; omega) | exact (and32_le (by omega) (by omega)).1 | exact (and32_le (by omega) (by omega)).2 | exact (mulR (by omega) (by omega) (by omega) (by omega)).1 | exact (mulR (by omega) (by omega) (by omega) (by omega)).2 | (subst_vars; simp [upZ] at *; omega) | (subst_vars; simp [upZ] at *; simp only [w32, w64] at *; omega))
          | skip
  refine wq_run hG n R0 [13] 900 _ _ _ _ ?_
  repeat' (first
      | with_reducible rfl
      | refine And.intro ?_ ?_
      | with_reducible exact True.intro
      | ((with_reducible show _ = true); rfl)
      | ((with_reducible show recvG _ _); rfl)
      | ((with_reducible show CI _); first | with_reducible assumption | assumption)
      | (fail_if_success (first | (with_reducible show _ ≤ _) | (with_reducible show _ = _) | (with_reducible show _ ∨ _) | (with_reducible show _ < _) | (with_reducible show G _ _ _ _))
         first
         | show G _ _ _ _
         | (intro (Z2 : ZT) hZ2; have hZ3 : Z' = Z2 := hZ2.symm; subst hZ3)
         | (intro (Z2 : ZT) hZ2; have hZ3 : Z1 = Z2 := hZ2.symm; subst hZ3)
         | (intro (Z2 : ZT) hZ2; have hZ3 : Z = Z2 := hZ2.symm; subst hZ3)
         | (refine ld_bnd (by first | with_reducible assumption | assumption) rfl ?_; intro _ _ _ _)
         | (refine st_bnd (by first | with_reducible assumption | assumption) (by first | with_reducible assumption | assumption) (by decide) (fun lo hi hb => by first | (cases hb; done) | (cases hb; constructor <;> (first | omega | (simp (disch := omega) only [w32_id, w64_id]; omega) | (simp (disch := omega) only [w32_id, w64_id] at *; omega) | (simp only [w32, w64] at *; omega) | exact (and32_le (by omega) (by omega)).1 | exact (and32_le (by omega) (by omega)).2 | exact (mulR (by omega) (by omega) (by omega) (by omega)).1 | exact (mulR (by omega) (by omega) (by omega) (by omega)).2 | (subst_vars; simp [upZ] at *; omega) | (subst_vars; simp [upZ] at *; simp only [w32, w64] at *; omega)))) ?_; intro Z' _ _ _)
         | (intro (r : Option PV) σ' hq
            first
            | (obtain ⟨rfl, rfl⟩ := hq)
            | (obtain ⟨Z', x, rfl, rfl, hI2, hk2, hl2, hu2⟩ := hq; have hk3 := keeps_to (by first | with_reducible assumption | assumption) (by rfl) hk2; clear hk2)
            | (obtain ⟨Z', x, rfl, rfl, hI2, hk2⟩ := hq; have hk3 := keeps_to (by first | with_reducible assumption | assumption) (by rfl) hk2; clear hk2)
            | (rcases hq with ⟨Z', rfl, rfl, hI2, hk2⟩ | ⟨Z', rfl, rfl, hI2, hk2⟩ <;> (have hk3 := keeps_to (by first | with_reducible assumption | assumption) (by rfl) hk2; clear hk2))
            | (obtain ⟨Z', rfl, rfl, hI2, hk2⟩ := hq; have hk3 := keeps_to (by first | with_reducible assumption | assumption) (by rfl) hk2; clear hk2))
         | (intro hc; (try simp only [cmp3_c] at hc); simp only [cmpI] at hc)
         | (show CI _; assumption)
         | intro (_ : Int)
         | intro (Z' : ZT)
         | intro (_ : CI _)
         | intro (_ : keeps _ _ _)
         | intro (_ : _ ≤ _)
         | intro (_ : _ = _)
         | intro (_ : _ < _)
         | intro (_ : _ ∨ _)))
  all_goals (have lp13 := loop 1000000)
  all_goals first
    | with_reducible rfl
    | ((with_reducible show _ = _); rfl)
    | ((with_reducible show recvG _ _); rfl)
    | with_reducible exact trivial
    | ((fail_if_success (first | (with_reducible show _ ≤ _) | (with_reducible show _ = _) | (with_reducible show _ ∨ _) | (with_reducible show _ < _) | (with_reducible show G _ _ _ _))); (refine Exists.intro _ (And.intro rfl (And.intro rfl (And.intro ?_ ?_)))) <;> with_reducible assumption)
    | ((with_reducible show G 13 _ _ _); exact hG.2 13 _ [(0, vr 95), (1, vi a1), (2, vi a2), (3, vi a3), (4, vi _), (5, vi _)] _ _ rfl (lp13 _ _ _ (by assumption) (by assumption) (by refine ⟨by first | omega | (refine ⟨?_, ?_⟩ <;> (first | omega | (simp (disch := omega) only [w32_id, w64_id]; omega) | (simp (disch := omega) only [w32_id, w64_id] at *; omega) | (simp only [w32, w64] at *; omega) | exact (and32_le (by omega) (by omega)).1 | exact (and32_le (by omega) (by omega)).2 | exact (mulR (by omega) (by omega) (by omega) (by omega)).1 | exact (mulR (by omega) (by omega) (by omega) (by omega)).2 | (subst_vars; simp [upZ] at *; omega) | (subst_vars; simp [upZ] at *; simp only [w32, w64] at *; omega))) | (first | omega | (simp (disch := omega) only [w32_id, w64_id]; omega) | (simp (disch := omega) only [w32_id, w64_id] at *; omega) | (simp only [w32, w64] at *; omega) | exact (and32_le (by omega) (by omega)).1 | exact (and32_le (by omega) (by omega)).2 | exact (mulR (by omega) (by omega) (by omega) (by omega)).1 | exact (mulR (by omega) (by omega) (by omega) (by omega)).2 | (subst_vars; simp [upZ] at *; omega) | (subst_vars; simp [upZ] at *; simp only [w32, w64] at *; omega)), trivial⟩) (by first | omega | (simp (disch := omega) only [w32_id, w64_id]; omega) | (simp (disch := omega) only [w32_id, w64_id] at *; omega) | (simp only [w32, w64] at *; omega) | exact (and32_le (by omega) (by omega)).1 | exact (and32_le (by omega) (by omega)).2 | exact (mulR (by omega) (by omega) (by omega) (by omega)).1 | exact (mulR (by omega) (by omega) (by omega) (by omega)).2 | (subst_vars; simp [upZ] at *; omega) | (subst_vars; simp [upZ] at *; simp only [w32, w64] at *; omega))))
    | ((fail_if_success (first | (with_reducible show _ ≤ _) | (with_reducible show _ = _) | (with_reducible show _ ∨ _) | (with_reducible show _ < _) | (with_reducible show G _ _ _ _))); exact Exists.intro _ (Exists.intro _ ⟨rfl, rfl, by assumption, by assumption, by (first | omega | (simp (disch := omega) only [w32_id, w64_id]; omega) | (simp (disch := omega) only [w32_id, w64_id] at *; omega) | (simp only [w32, w64] at *; omega) | exact (and32_le (by omega) (by omega)).1 | exact (and32_le (by omega) (by omega)).2 | exact (mulR (by omega) (by omega) (by omega) (by omega)).1 | exact (mulR (by omega) (by omega) (by omega) (by omega)).2 | (subst_vars; simp [upZ] at *; omega) | (subst_vars; simp [upZ] at *; simp only [w32, w64] at *; omega)), by (first | omega | (simp (disch := omega) only [w32_id, w64_id]; omega) | (simp (disch := omega) only [w32_id, w64_id] at *; omega) | (simp only [w32, w64] at *; omega) | exact (and32_le (by omega) (by omega)).1 | exact (and32_le (by omega) (by omega)).2 | exact (mulR (by omega) (by omega) (by omega) (by omega)).1 | exact (mulR (by omega) (by omega) (by omega) (by omega)).2 | (subst_vars; simp [upZ] at *; omega) | (subst_vars; simp [upZ] at *; simp only [w32, w64] at *; omega))⟩))
    | ((fail_if_success (first | (with_reducible show _ ≤ _) | (with_reducible show _ = _) | (with_reducible show _ ∨ _) | (with_reducible show _ < _) | (with_reducible show G _ _ _ _))); exact Exists.intro _ (Exists.intro _ ⟨rfl, rfl, by assumption, by assumption⟩))
    | ((fail_if_success (first | (with_reducible show _ ≤ _) | (with_reducible show _ = _) | (with_reducible show _ ∨ _) | (with_reducible show _ < _) | (with_reducible show G _ _ _ _))); exact Exists.intro _ ⟨rfl, rfl, by assumption, by assumption⟩)
    | ((fail_if_success (first | (with_reducible show _ ≤ _) | (with_reducible show _ = _) | (with_reducible show _ ∨ _) | (with_reducible show _ < _) | (with_reducible show G _ _ _ _))); exact Or.inl (Exists.intro _ ⟨rfl, rfl, by assumption, by assumption⟩))
    | ((fail_if_success (first | (with_reducible show _ ≤ _) | (with_reducible show _ = _) | (with_reducible show _ ∨ _) | (with_reducible show _ < _) | (with_reducible show G _ _ _ _))); exact Or.inr (Exists.intro _ ⟨rfl, rfl, by assumption, by assumption⟩))
    | omega
    | rfl
    | exact trivial
    | decide
    | (show (0 : Int) < _; omega)
    | (show (0 : Int) < _; simp only [w64] at *; omega)
    | (simp only [w32, w64] at *; omega)
    | (first | omega | (simp (disch := omega) only [w32_id, w64_id]; omega) | (simp (disch := omega) only [w32_id, w64_id] at *; omega) | (simp only [w32, w64] at *; omega) | exact (and32_le (by omega) (by omega)).1 | exact (and32_le (by omega) (by omega)).2 | exact (mulR (by omega) (by omega) (by omega) (by omega)).1 | exact (mulR (by omega) (by omega) (by omega) (by omega)).2 | (subst_vars; simp [upZ] at *; omega) | (subst_vars; simp [upZ] at *; simp only [w32, w64] at *; omega))
    | skip
def s_X9_addLoads : Sp := wspV 3 9 (fun as Z => match as with
    | [.inr (.inr a0), .inr (.inr a1), .inr (.inr a2)] => ((a0 = 95)) ∧ ((a1 = 2)) ∧ ((a2 = 86)) ∧ True
    | _ => False) (fun as => match as with
    | [.inr (.inr a0), .inr (.inr a1), .inr (.inr a2)] => [99]
    | _ => [])
set_option maxRecDepth 100000 in
set_option maxHeartbeats 40000000 in
theorem c_X9_addLoads {l : Launch} {D : va_G} {cA : Nat → ClassId} : PM l D cA yX9_addLoads cX9_addLoads 5 none 1 21 s_X9_addLoads := by
  refine of_X9_addLoads (c_X2_paceOf) ⟨rfl, rfl⟩ (fun as σ hwf hao hpre => ?_)
  obtain ⟨n, Z, R⟩ := σ
  obtain ⟨hR, hI, hpre⟩ := hpre
  obtain rfl : R = R0 := hR
  rcases as with _ | ⟨x | x | a0, _ | ⟨x | x | a1, _ | ⟨x | x | a2, _ | ⟨v, t⟩⟩⟩⟩ <;> first | exact (hpre : False).elim | skip
  obtain ⟨h0, h1, h2, -⟩ := hpre
  have hk : keeps ([99]) Z Z := keeps_refl
  refine ⟨Nat.le_of_ble_eq_true rfl, fun G hG => ?_⟩
  clear hao hwf
  obtain rfl := h0
  obtain rfl := h1
  obtain rfl := h2
  have loop : ∀ fuel : Nat, (∀ (Z1 : ZT) (v3 : Int), CI Z1 → keeps ([99]) Z Z1 → ((0 ≤ v3 ∧ v3 ≤ 6) ∧ True) → 1000 - v3 ≤ (fuel : Int) → G 2 [(0, vr 95), (1, vr 2), (2, vr 86), (3, vi v3)] [] (n, Z1, R0)) ∧ (∀ (Z1 : ZT) (v3 : Int), CI Z1 → keeps ([99]) Z Z1 → ((0 ≤ v3 ∧ v3 ≤ 36) ∧ True) → 37 - v3 ≤ (fuel : Int) → G 23 [(0, vr 95), (1, vr 2), (2, vr 86), (3, vi v3)] [] (n, Z1, R0)) := by
    intro fuel
    induction fuel with
    | zero => exact ⟨(by intros; omega), (by intros; omega)⟩
    | succ fuel ih =>
      obtain ⟨ih2, ih23⟩ := ih
      refine ⟨?_, ?_⟩
      · intro Z1 v3 hI1 hk1 hv hm
        obtain ⟨w0, -⟩ := hv
        clear hk hI
        refine wq_run hG n R0 [2, 23] 900 _ _ _ _ ?_
        repeat' (first
            | with_reducible rfl
            | refine And.intro ?_ ?_
            | with_reducible exact True.intro
            | ((with_reducible show _ = true); rfl)
            | ((with_reducible show recvG _ _); rfl)
            | ((with_reducible show CI _); first | with_reducible assumption | assumption)
            | (fail_if_success (first | (with_reducible show _ ≤ _) | (with_reducible show _ = _) | (with_reducible show _ ∨ _) | (with_reducible show _ < _) | (with_reducible show G _ _ _ _))
               first
               | show G _ _ _ _
               | (intro (Z2 : ZT) hZ2; have hZ3 : Z' = Z2 := hZ2.symm; subst hZ3)
               | (intro (Z2 : ZT) hZ2; have hZ3 : Z1 = Z2 := hZ2.symm; subst hZ3)
               | (intro (Z2 : ZT) hZ2; have hZ3 : Z = Z2 := hZ2.symm; subst hZ3)
               | (refine ld_bnd (by first | with_reducible assumption | assumption) rfl ?_; intro _ _ _ _)
               | (refine st_bnd (by first | with_reducible assumption | assumption) (by first | with_reducible assumption | assumption) (by decide) (fun lo hi hb => by first | (cases hb; done) | (cases hb; constructor <;> (first | omega | (simp (disch := omega) only [w32_id, w64_id]; omega) | (simp (disch := omega) only [w32_id, w64_id] at *; omega) | (simp only [w32, w64] at *; omega) | exact (and32_le (by omega) (by omega)).1 | exact (and32_le (by omega) (by omega)).2 | exact (mulR (by omega) (by omega) (by omega) (by omega)).1 | exact (mulR (by omega) (by omega) (by omega) (by omega)).2 | (subst_vars; simp [upZ] at *; omega) | (subst_vars; simp [upZ] at *; simp only [w32, w64] at *; omega)))) ?_; intro Z' _ _ _)
               | (intro (r : Option PV) σ' hq
                  first
                  | (obtain ⟨rfl, rfl⟩ := hq)
                  | (obtain ⟨Z', x, rfl, rfl, hI2, hk2, hl2, hu2⟩ := hq; have hk3 := keeps_to (by first | with_reducible assumption | assumption) (by rfl) hk2; clear hk2)
                  | (obtain ⟨Z', x, rfl, rfl, hI2, hk2⟩ := hq; have hk3 := keeps_to (by first | with_reducible assumption | assumption) (by rfl) hk2; clear hk2)
                  | (rcases hq with ⟨Z', rfl, rfl, hI2, hk2⟩ | ⟨Z', rfl, rfl, hI2, hk2⟩ <;> (have hk3 := keeps_to (by first | with_reducible assumption | assumption) (by rfl) hk2; clear hk2))
                  | (obtain ⟨Z', rfl, rfl, hI2, hk2⟩ := hq; have hk3 := keeps_to (by first | with_reducible assumption | assumption) (by rfl) hk2; clear hk2))
               | (intro hc; (try simp only [cmp3_c] at hc); simp only [cmpI] at hc)
               | (show CI _; assumption)
               | intro (_ : Int)
               | intro (Z' : ZT)
               | intro (_ : CI _)
               | intro (_ : keeps _ _ _)
               | intro (_ : _ ≤ _)
               | intro (_ : _ = _)
               | intro (_ : _ < _)
               | intro (_ : _ ∨ _)))
        all_goals first
          | with_reducible rfl
          | ((with_reducible show _ = _); rfl)
          | ((with_reducible show recvG _ _); rfl)
          | with_reducible exact trivial
          | ((fail_if_success (first | (with_reducible show _ ≤ _) | (with_reducible show _ = _) | (with_reducible show _ ∨ _) | (with_reducible show _ < _) | (with_reducible show G _ _ _ _))); (refine Exists.intro _ (And.intro rfl (And.intro rfl (And.intro ?_ ?_)))) <;> with_reducible assumption)
          | ((with_reducible show G 2 _ _ _); exact hG.2 2 _ [(0, vr 95), (1, vr 2), (2, vr 86), (3, vi _)] _ _ rfl (ih2 _ _ (by assumption) (by assumption) (by refine ⟨by first | omega | (refine ⟨?_, ?_⟩ <;> (first | omega | (simp (disch := omega) only [w32_id, w64_id]; omega) | (simp (disch := omega) only [w32_id, w64_id] at *; omega) | (simp only [w32, w64] at *; omega) | exact (and32_le (by omega) (by omega)).1 | exact (and32_le (by omega) (by omega)).2 | exact (mulR (by omega) (by omega) (by omega) (by omega)).1 | exact (mulR (by omega) (by omega) (by omega) (by omega)).2 | (subst_vars; simp [upZ] at *; omega) | (subst_vars; simp [upZ] at *; simp only [w32, w64] at *; omega))) | (first | omega | (simp (disch := omega) only [w32_id, w64_id]; omega) | (simp (disch := omega) only [w32_id, w64_id] at *; omega) | (simp only [w32, w64] at *; omega) | exact (and32_le (by omega) (by omega)).1 | exact (and32_le (by omega) (by omega)).2 | exact (mulR (by omega) (by omega) (by omega) (by omega)).1 | exact (mulR (by omega) (by omega) (by omega) (by omega)).2 | (subst_vars; simp [upZ] at *; omega) | (subst_vars; simp [upZ] at *; simp only [w32, w64] at *; omega)), trivial⟩) (by first | omega | (simp (disch := omega) only [w32_id, w64_id]; omega) | (simp (disch := omega) only [w32_id, w64_id] at *; omega) | (simp only [w32, w64] at *; omega) | exact (and32_le (by omega) (by omega)).1 | exact (and32_le (by omega) (by omega)).2 | exact (mulR (by omega) (by omega) (by omega) (by omega)).1 | exact (mulR (by omega) (by omega) (by omega) (by omega)).2 | (subst_vars; simp [upZ] at *; omega) | (subst_vars; simp [upZ] at *; simp only [w32, w64] at *; omega))))
          | ((with_reducible show G 23 _ _ _); exact hG.2 23 _ [(0, vr 95), (1, vr 2), (2, vr 86), (3, vi _)] _ _ rfl (ih23 _ _ (by assumption) (by assumption) (by refine ⟨by first | omega | (refine ⟨?_, ?_⟩ <;> (first | omega | (simp (disch := omega) only [w32_id, w64_id]; omega) | (simp (disch := omega) only [w32_id, w64_id] at *; omega) | (simp only [w32, w64] at *; omega) | exact (and32_le (by omega) (by omega)).1 | exact (and32_le (by omega) (by omega)).2 | exact (mulR (by omega) (by omega) (by omega) (by omega)).1 | exact (mulR (by omega) (by omega) (by omega) (by omega)).2 | (subst_vars; simp [upZ] at *; omega) | (subst_vars; simp [upZ] at *; simp only [w32, w64] at *; omega))) | (first | omega | (simp (disch := omega) only [w32_id, w64_id]; omega) | (simp (disch := omega) only [w32_id, w64_id] at *; omega) | (simp only [w32, w64] at *; omega) | exact (and32_le (by omega) (by omega)).1 | exact (and32_le (by omega) (by omega)).2 | exact (mulR (by omega) (by omega) (by omega) (by omega)).1 | exact (mulR (by omega) (by omega) (by omega) (by omega)).2 | (subst_vars; simp [upZ] at *; omega) | (subst_vars; simp [upZ] at *; simp only [w32, w64] at *; omega)), trivial⟩) (by first | omega | (simp (disch := omega) only [w32_id, w64_id]; omega) | (simp (disch := omega) only [w32_id, w64_id] at *; omega) | (simp only [w32, w64] at *; omega) | exact (and32_le (by omega) (by omega)).1 | exact (and32_le (by omega) (by omega)).2 | exact (mulR (by omega) (by omega) (by omega) (by omega)).1 | exact (mulR (by omega) (by omega) (by omega) (by omega)).2 | (subst_vars; simp [upZ] at *; omega) | (subst_vars; simp [upZ] at *; simp only [w32, w64] at *; omega))))
          | ((fail_if_success (first | (with_reducible show _ ≤ _) | (with_reducible show _ = _) | (with_reducible show _ ∨ _) | (with_reducible show _ < _) | (with_reducible show G _ _ _ _))); exact Exists.intro _ (Exists.intro _ ⟨rfl, rfl, by assumption, by assumption, by (first | omega | (simp (disch := omega) only [w32_id, w64_id]; omega) | (simp (disch := omega) only [w32_id, w64_id] at *; omega) | (simp only [w32, w64] at *; omega) | exact (and32_le (by omega) (by omega)).1 | exact (and32_le (by omega) (by omega)).2 | exact (mulR (by omega) (by omega) (by omega) (by omega)).1 | exact (mulR (by omega) (by omega) (by omega) (by omega)).2 | (subst_vars; simp [upZ] at *; omega) | (subst_vars; simp [upZ] at *; simp only [w32, w64] at *; omega)), by (first | omega | (simp (disch := omega) only [w32_id, w64_id]; omega) | (simp (disch := omega) only [w32_id, w64_id] at *; omega) | (simp only [w32, w64] at *; omega) | exact (and32_le (by omega) (by omega)).1 | exact (and32_le (by omega) (by omega)).2 | exact (mulR (by omega) (by omega) (by omega) (by omega)).1 | exact (mulR (by omega) (by omega) (by omega) (by omega)).2 | (subst_vars; simp [upZ] at *; omega) | (subst_vars; simp [upZ] at *; simp only [w32, w64] at *; omega))⟩))
          | ((fail_if_success (first | (with_reducible show _ ≤ _) | (with_reducible show _ = _) | (with_reducible show _ ∨ _) | (with_reducible show _ < _) | (with_reducible show G _ _ _ _))); exact Exists.intro _ (Exists.intro _ ⟨rfl, rfl, by assumption, by assumption⟩))
          | ((fail_if_success (first | (with_reducible show _ ≤ _) | (with_reducible show _ = _) | (with_reducible show _ ∨ _) | (with_reducible show _ < _) | (with_reducible show G _ _ _ _))); exact Exists.intro _ ⟨rfl, rfl, by assumption, by assumption⟩)
          | ((fail_if_success (first | (with_reducible show _ ≤ _) | (with_reducible show _ = _) | (with_reducible show _ ∨ _) | (with_reducible show _ < _) | (with_reducible show G _ _ _ _))); exact Or.inl (Exists.intro _ ⟨rfl, rfl, by assumption, by assumption⟩))
          | ((fail_if_success (first | (with_reducible show _ ≤ _) | (with_reducible show _ = _) | (with_reducible show _ ∨ _) | (with_reducible show _ < _) | (with_reducible show G _ _ _ _))); exact Or.inr (Exists.intro _ ⟨rfl, rfl, by assumption, by assumption⟩))
          | omega
          | rfl
          | exact trivial
          | decide
          | (show (0 : Int) < _; omega)
          | (show (0 : Int) < _; simp only [w64] at *; omega)
          | (simp only [w32, w64] at *; omega)
          | (first | omega | (simp (disch := omega) only [w32_id, w64_id]; omega) | (simp (disch := omega) only [w32_id, w64_id] at *; omega) | (simp only [w32, w64] at *; omega) | exact (and32_le (by omega) (by omega)).1 | exact (and32_le (by omega) (by omega)).2 | exact (mulR (by omega) (by omega) (by omega) (by omega)).1 | exact (mulR (by omega) (by omega) (by omega) (by omega)).2 | (subst_vars; simp [upZ] at *; omega) | (subst_vars; simp [upZ] at *; simp only [w32, w64] at *; omega))
          | skip
      · intro Z1 v3 hI1 hk1 hv hm
        obtain ⟨w0, -⟩ := hv
        clear hk hI
        refine wq_run hG n R0 [2, 23] 900 _ _ _ _ ?_
        repeat' (first
            | with_reducible rfl
            | refine And.intro ?_ ?_
            | with_reducible exact True.intro
            | ((with_reducible show _ = true); rfl)
            | ((with_reducible show recvG _ _); rfl)
            | ((with_reducible show CI _); first | with_reducible assumption | assumption)
            | (fail_if_success (first | (with_reducible show _ ≤ _) | (with_reducible show _ = _) | (with_reducible show _ ∨ _) | (with_reducible show _ < _) | (with_reducible show G _ _ _ _))
               first
               | show G _ _ _ _
               | (intro (Z2 : ZT) hZ2; have hZ3 : Z' = Z2 := hZ2.symm; subst hZ3)
               | (intro (Z2 : ZT) hZ2; have hZ3 : Z1 = Z2 := hZ2.symm; subst hZ3)
               | (intro (Z2 : ZT) hZ2; have hZ3 : Z = Z2 := hZ2.symm; subst hZ3)
               | (refine ld_bnd (by first | with_reducible assumption | assumption) rfl ?_; intro _ _ _ _)
               | (refine st_bnd (by first | with_reducible assumption | assumption) (by first | with_reducible assumption | assumption) (by decide) (fun lo hi hb => by first | (cases hb; done) | (cases hb; constructor <;> (first | omega | (simp (disch := omega) only [w32_id, w64_id]; omega) | (simp (disch := omega) only [w32_id, w64_id] at *; omega) | (simp only [w32, w64] at *; omega) | exact (and32_le (by omega) (by omega)).1 | exact (and32_le (by omega) (by omega)).2 | exact (mulR (by omega) (by omega) (by omega) (by omega)).1 | exact (mulR (by omega) (by omega) (by omega) (by omega)).2 | (subst_vars; simp [upZ] at *; omega) | (subst_vars; simp [upZ] at *; simp only [w32, w64] at *; omega)))) ?_; intro Z' _ _ _)
               | (intro (r : Option PV) σ' hq
                  first
                  | (obtain ⟨rfl, rfl⟩ := hq)
                  | (obtain ⟨Z', x, rfl, rfl, hI2, hk2, hl2, hu2⟩ := hq; have hk3 := keeps_to (by first | with_reducible assumption | assumption) (by rfl) hk2; clear hk2)
                  | (obtain ⟨Z', x, rfl, rfl, hI2, hk2⟩ := hq; have hk3 := keeps_to (by first | with_reducible assumption | assumption) (by rfl) hk2; clear hk2)
                  | (rcases hq with ⟨Z', rfl, rfl, hI2, hk2⟩ | ⟨Z', rfl, rfl, hI2, hk2⟩ <;> (have hk3 := keeps_to (by first | with_reducible assumption | assumption) (by rfl) hk2; clear hk2))
                  | (obtain ⟨Z', rfl, rfl, hI2, hk2⟩ := hq; have hk3 := keeps_to (by first | with_reducible assumption | assumption) (by rfl) hk2; clear hk2))
               | (intro hc; (try simp only [cmp3_c] at hc); simp only [cmpI] at hc)
               | (show CI _; assumption)
               | intro (_ : Int)
               | intro (Z' : ZT)
               | intro (_ : CI _)
               | intro (_ : keeps _ _ _)
               | intro (_ : _ ≤ _)
               | intro (_ : _ = _)
               | intro (_ : _ < _)
               | intro (_ : _ ∨ _)))
        all_goals first
          | with_reducible rfl
          | ((with_reducible show _ = _); rfl)
          | ((with_reducible show recvG _ _); rfl)
          | with_reducible exact trivial
          | ((fail_if_success (first | (with_reducible show _ ≤ _) | (with_reducible show _ = _) | (with_reducible show _ ∨ _) | (with_reducible show _ < _) | (with_reducible show G _ _ _ _))); (refine Exists.intro _ (And.intro rfl (And.intro rfl (And.intro ?_ ?_)))) <;> with_reducible assumption)
          | ((with_reducible show G 2 _ _ _); exact hG.2 2 _ [(0, vr 95), (1, vr 2), (2, vr 86), (3, vi _)] _ _ rfl (ih2 _ _ (by assumption) (by assumption) (by refine ⟨by first | omega | (refine ⟨?_, ?_⟩ <;> (first | omega | (simp (disch := omega) only [w32_id, w64_id]; omega) | (simp (disch := omega) only [w32_id, w64_id] at *; omega) | (simp only [w32, w64] at *; omega) | exact (and32_le (by omega) (by omega)).1 | exact (and32_le (by omega) (by omega)).2 | exact (mulR (by omega) (by omega) (by omega) (by omega)).1 | exact (mulR (by omega) (by omega) (by omega) (by omega)).2 | (subst_vars; simp [upZ] at *; omega) | (subst_vars; simp [upZ] at *; simp only [w32, w64] at *; omega))) | (first | omega | (simp (disch := omega) only [w32_id, w64_id]; omega) | (simp (disch := omega) only [w32_id, w64_id] at *; omega) | (simp only [w32, w64] at *; omega) | exact (and32_le (by omega) (by omega)).1 | exact (and32_le (by omega) (by omega)).2 | exact (mulR (by omega) (by omega) (by omega) (by omega)).1 | exact (mulR (by omega) (by omega) (by omega) (by omega)).2 | (subst_vars; simp [upZ] at *; omega) | (subst_vars; simp [upZ] at *; simp only [w32, w64] at *; omega)), trivial⟩) (by first | omega | (simp (disch := omega) only [w32_id, w64_id]; omega) | (simp (disch := omega) only [w32_id, w64_id] at *; omega) | (simp only [w32, w64] at *; omega) | exact (and32_le (by omega) (by omega)).1 | exact (and32_le (by omega) (by omega)).2 | exact (mulR (by omega) (by omega) (by omega) (by omega)).1 | exact (mulR (by omega) (by omega) (by omega) (by omega)).2 | (subst_vars; simp [upZ] at *; omega) | (subst_vars; simp [upZ] at *; simp only [w32, w64] at *; omega))))
          | ((with_reducible show G 23 _ _ _); exact hG.2 23 _ [(0, vr 95), (1, vr 2), (2, vr 86), (3, vi _)] _ _ rfl (ih23 _ _ (by assumption) (by assumption) (by refine ⟨by first | omega | (refine ⟨?_, ?_⟩ <;> (first | omega | (simp (disch := omega) only [w32_id, w64_id]; omega) | (simp (disch := omega) only [w32_id, w64_id] at *; omega) | (simp only [w32, w64] at *; omega) | exact (and32_le (by omega) (by omega)).1 | exact (and32_le (by omega) (by omega)).2 | exact (mulR (by omega) (by omega) (by omega) (by omega)).1 | exact (mulR (by omega) (by omega) (by omega) (by omega)).2 | (subst_vars; simp [upZ] at *; omega) | (subst_vars; simp [upZ] at *; simp only [w32, w64] at *; omega))) | (first | omega | (simp (disch := omega) only [w32_id, w64_id]; omega) | (simp (disch := omega) only [w32_id, w64_id] at *; omega) | (simp only [w32, w64] at *; omega) | exact (and32_le (by omega) (by omega)).1 | exact (and32_le (by omega) (by omega)).2 | exact (mulR (by omega) (by omega) (by omega) (by omega)).1 | exact (mulR (by omega) (by omega) (by omega) (by omega)).2 | (subst_vars; simp [upZ] at *; omega) | (subst_vars; simp [upZ] at *; simp only [w32, w64] at *; omega)), trivial⟩) (by first | omega | (simp (disch := omega) only [w32_id, w64_id]; omega) | (simp (disch := omega) only [w32_id, w64_id] at *; omega) | (simp only [w32, w64] at *; omega) | exact (and32_le (by omega) (by omega)).1 | exact (and32_le (by omega) (by omega)).2 | exact (mulR (by omega) (by omega) (by omega) (by omega)).1 | exact (mulR (by omega) (by omega) (by omega) (by omega)).2 | (subst_vars; simp [upZ] at *; omega) | (subst_vars; simp [upZ] at *; simp only [w32, w64] at *; omega))))
          | ((fail_if_success (first | (with_reducible show _ ≤ _) | (with_reducible show _ = _) | (with_reducible show _ ∨ _) | (with_reducible show _ < _) | (with_reducible show G _ _ _ _))); exact Exists.intro _ (Exists.intro _ ⟨rfl, rfl, by assumption, by assumption, by (first | omega | (simp (disch := omega) only [w32_id, w64_id]; omega) | (simp (disch := omega) only [w32_id, w64_id] at *; omega) | (simp only [w32, w64] at *; omega) | exact (and32_le (by omega) (by omega)).1 | exact (and32_le (by omega) (by omega)).2 | exact (mulR (by omega) (by omega) (by omega) (by omega)).1 | exact (mulR (by omega) (by omega) (by omega) (by omega)).2 | (subst_vars; simp [upZ] at *; omega) | (subst_vars; simp [upZ] at *; simp only [w32, w64] at *; omega)), by (first | omega | (simp (disch := omega) only [w32_id, w64_id]; omega) | (simp (disch := omega) only [w32_id, w64_id] at *; omega) | (simp only [w32, w64] at *; omega) | exact (and32_le (by omega) (by omega)).1 | exact (and32_le (by omega) (by omega)).2 | exact (mulR (by omega) (by omega) (by omega) (by omega)).1 | exact (mulR (by omega) (by omega) (by omega) (by omega)).2 | (subst_vars; simp [upZ] at *; omega) | (subst_vars; simp [upZ] at *; simp only [w32, w64] at *; omega))⟩))
          | ((fail_if_success (first | (with_reducible show _ ≤ _) | (with_reducible show _ = _) | (with_reducible show _ ∨ _) | (with_reducible show _ < _) | (with_reducible show G _ _ _ _))); exact Exists.intro _ (Exists.intro _ ⟨rfl, rfl, by assumption, by assumption⟩))
          | ((fail_if_success (first | (with_reducible show _ ≤ _) | (with_reducible show _ = _) | (with_reducible show _ ∨ _) | (with_reducible show _ < _) | (with_reducible show G _ _ _ _))); exact Exists.intro _ ⟨rfl, rfl, by assumption, by assumption⟩)
          | ((fail_if_success (first | (with_reducible show _ ≤ _) | (with_reducible show _ = _) | (with_reducible show _ ∨ _) | (with_reducible show _ < _) | (with_reducible show G _ _ _ _))); exact Or.inl (Exists.intro _ ⟨rfl, rfl, by assumption, by assumption⟩))
          | ((fail_if_success (first | (with_reducible show _ ≤ _) | (with_reducible show _ = _) | (with_reducible show _ ∨ _) | (with_reducible show _ < _) | (with_reducible show G _ _ _ _))); exact Or.inr (Exists.intro _ ⟨rfl, rfl, by assumption, by assumption⟩))
          | omega
          | rfl
          | exact trivial
          | decide
          | (show (0 : Int) < _; omega)
          | (show (0 : Int) < _; simp only [w64] at *; omega)
          | (simp only [w32, w64] at *; omega)
          | (first | omega | (simp (disch := omega) only [w32_id, w64_id]; omega) | (simp (disch := omega) only [w32_id, w64_id] at *; omega) | (simp only [w32, w64] at *; omega) | exact (and32_le (by omega) (by omega)).1 | exact (and32_le (by omega) (by omega)).2 | exact (mulR (by omega) (by omega) (by omega) (by omega)).1 | exact (mulR (by omega) (by omega) (by omega) (by omega)).2 | (subst_vars; simp [upZ] at *; omega) | (subst_vars; simp [upZ] at *; simp only [w32, w64] at *; omega))
          | skip
  refine wq_run hG n R0 [2, 23] 900 _ _ _ _ ?_
  repeat' (first
      | with_reducible rfl
      | refine And.intro ?_ ?_
      | with_reducible exact True.intro
      | ((with_reducible show _ = true); rfl)
      | ((with_reducible show recvG _ _); rfl)
      | ((with_reducible show CI _); first | with_reducible assumption | assumption)
      | (fail_if_success (first | (with_reducible show _ ≤ _) | (with_reducible show _ = _) | (with_reducible show _ ∨ _) | (with_reducible show _ < _) | (with_reducible show G _ _ _ _))
         first
         | show G _ _ _ _
         | (intro (Z2 : ZT) hZ2; have hZ3 : Z' = Z2 := hZ2.symm; subst hZ3)
         | (intro (Z2 : ZT) hZ2; have hZ3 : Z1 = Z2 := hZ2.symm; subst hZ3)
         | (intro (Z2 : ZT) hZ2; have hZ3 : Z = Z2 := hZ2.symm; subst hZ3)
         | (refine ld_bnd (by first | with_reducible assumption | assumption) rfl ?_; intro _ _ _ _)
         | (refine st_bnd (by first | with_reducible assumption | assumption) (by first | with_reducible assumption | assumption) (by decide) (fun lo hi hb => by first | (cases hb; done) | (cases hb; constructor <;> (first | omega | (simp (disch := omega) only [w32_id, w64_id]; omega) | (simp (disch := omega) only [w32_id, w64_id] at *; omega) | (simp only [w32, w64] at *; omega) | exact (and32_le (by omega) (by omega)).1 | exact (and32_le (by omega) (by omega)).2 | exact (mulR (by omega) (by omega) (by omega) (by omega)).1 | exact (mulR (by omega) (by omega) (by omega) (by omega)).2 | (subst_vars; simp [upZ] at *; omega) | (subst_vars; simp [upZ] at *; simp only [w32, w64] at *; omega)))) ?_; intro Z' _ _ _)
         | (intro (r : Option PV) σ' hq
            first
            | (obtain ⟨rfl, rfl⟩ := hq)
            | (obtain ⟨Z', x, rfl, rfl, hI2, hk2, hl2, hu2⟩ := hq; have hk3 := keeps_to (by first | with_reducible assumption | assumption) (by rfl) hk2; clear hk2)
            | (obtain ⟨Z', x, rfl, rfl, hI2, hk2⟩ := hq; have hk3 := keeps_to (by first | with_reducible assumption | assumption) (by rfl) hk2; clear hk2)
            | (rcases hq with ⟨Z', rfl, rfl, hI2, hk2⟩ | ⟨Z', rfl, rfl, hI2, hk2⟩ <;> (have hk3 := keeps_to (by first | with_reducible assumption | assumption) (by rfl) hk2; clear hk2))
            | (obtain ⟨Z', rfl, rfl, hI2, hk2⟩ := hq; have hk3 := keeps_to (by first | with_reducible assumption | assumption) (by rfl) hk2; clear hk2))
         | (intro hc; (try simp only [cmp3_c] at hc); simp only [cmpI] at hc)
         | (show CI _; assumption)
         | intro (_ : Int)
         | intro (Z' : ZT)
         | intro (_ : CI _)
         | intro (_ : keeps _ _ _)
         | intro (_ : _ ≤ _)
         | intro (_ : _ = _)
         | intro (_ : _ < _)
         | intro (_ : _ ∨ _)))
  all_goals (try obtain ⟨lp2, lp23⟩ := loop 1000000)
  all_goals first
    | with_reducible rfl
    | ((with_reducible show _ = _); rfl)
    | ((with_reducible show recvG _ _); rfl)
    | with_reducible exact trivial
    | ((fail_if_success (first | (with_reducible show _ ≤ _) | (with_reducible show _ = _) | (with_reducible show _ ∨ _) | (with_reducible show _ < _) | (with_reducible show G _ _ _ _))); (refine Exists.intro _ (And.intro rfl (And.intro rfl (And.intro ?_ ?_)))) <;> with_reducible assumption)
    | ((with_reducible show G 2 _ _ _); exact hG.2 2 _ [(0, vr 95), (1, vr 2), (2, vr 86), (3, vi _)] _ _ rfl (lp2 _ _ (by assumption) (by assumption) (by refine ⟨by first | omega | (refine ⟨?_, ?_⟩ <;> (first | omega | (simp (disch := omega) only [w32_id, w64_id]; omega) | (simp (disch := omega) only [w32_id, w64_id] at *; omega) | (simp only [w32, w64] at *; omega) | exact (and32_le (by omega) (by omega)).1 | exact (and32_le (by omega) (by omega)).2 | exact (mulR (by omega) (by omega) (by omega) (by omega)).1 | exact (mulR (by omega) (by omega) (by omega) (by omega)).2 | (subst_vars; simp [upZ] at *; omega) | (subst_vars; simp [upZ] at *; simp only [w32, w64] at *; omega))) | (first | omega | (simp (disch := omega) only [w32_id, w64_id]; omega) | (simp (disch := omega) only [w32_id, w64_id] at *; omega) | (simp only [w32, w64] at *; omega) | exact (and32_le (by omega) (by omega)).1 | exact (and32_le (by omega) (by omega)).2 | exact (mulR (by omega) (by omega) (by omega) (by omega)).1 | exact (mulR (by omega) (by omega) (by omega) (by omega)).2 | (subst_vars; simp [upZ] at *; omega) | (subst_vars; simp [upZ] at *; simp only [w32, w64] at *; omega)), trivial⟩) (by first | omega | (simp (disch := omega) only [w32_id, w64_id]; omega) | (simp (disch := omega) only [w32_id, w64_id] at *; omega) | (simp only [w32, w64] at *; omega) | exact (and32_le (by omega) (by omega)).1 | exact (and32_le (by omega) (by omega)).2 | exact (mulR (by omega) (by omega) (by omega) (by omega)).1 | exact (mulR (by omega) (by omega) (by omega) (by omega)).2 | (subst_vars; simp [upZ] at *; omega) | (subst_vars; simp [upZ] at *; simp only [w32, w64] at *; omega))))
    | ((with_reducible show G 23 _ _ _); exact hG.2 23 _ [(0, vr 95), (1, vr 2), (2, vr 86), (3, vi _)] _ _ rfl (lp23 _ _ (by assumption) (by assumption) (by refine ⟨by first | omega | (refine ⟨?_, ?_⟩ <;> (first | omega | (simp (disch := omega) only [w32_id, w64_id]; omega) | (simp (disch := omega) only [w32_id, w64_id] at *; omega) | (simp only [w32, w64] at *; omega) | exact (and32_le (by omega) (by omega)).1 | exact (and32_le (by omega) (by omega)).2 | exact (mulR (by omega) (by omega) (by omega) (by omega)).1 | exact (mulR (by omega) (by omega) (by omega) (by omega)).2 | (subst_vars; simp [upZ] at *; omega) | (subst_vars; simp [upZ] at *; simp only [w32, w64] at *; omega))) | (first | omega | (simp (disch := omega) only [w32_id, w64_id]; omega) | (simp (disch := omega) only [w32_id, w64_id] at *; omega) | (simp only [w32, w64] at *; omega) | exact (and32_le (by omega) (by omega)).1 | exact (and32_le (by omega) (by omega)).2 | exact (mulR (by omega) (by omega) (by omega) (by omega)).1 | exact (mulR (by omega) (by omega) (by omega) (by omega)).2 | (subst_vars; simp [upZ] at *; omega) | (subst_vars; simp [upZ] at *; simp only [w32, w64] at *; omega)), trivial⟩) (by first | omega | (simp (disch := omega) only [w32_id, w64_id]; omega) | (simp (disch := omega) only [w32_id, w64_id] at *; omega) | (simp only [w32, w64] at *; omega) | exact (and32_le (by omega) (by omega)).1 | exact (and32_le (by omega) (by omega)).2 | exact (mulR (by omega) (by omega) (by omega) (by omega)).1 | exact (mulR (by omega) (by omega) (by omega) (by omega)).2 | (subst_vars; simp [upZ] at *; omega) | (subst_vars; simp [upZ] at *; simp only [w32, w64] at *; omega))))
    | ((fail_if_success (first | (with_reducible show _ ≤ _) | (with_reducible show _ = _) | (with_reducible show _ ∨ _) | (with_reducible show _ < _) | (with_reducible show G _ _ _ _))); exact Exists.intro _ (Exists.intro _ ⟨rfl, rfl, by assumption, by assumption, by (first | omega | (simp (disch := omega) only [w32_id, w64_id]; omega) | (simp (disch := omega) only [w32_id, w64_id] at *; omega) | (simp only [w32, w64] at *; omega) | exact (and32_le (by omega) (by omega)).1 | exact (and32_le (by omega) (by omega)).2 | exact (mulR (by omega) (by omega) (by omega) (by omega)).1 | exact (mulR (by omega) (by omega) (by omega) (by omega)).2 | (subst_vars; simp [upZ] at *; omega) | (subst_vars; simp [upZ] at *; simp only [w32, w64] at *; omega)), by (first | omega | (simp (disch := omega) only [w32_id, w64_id]; omega) | (simp (disch := omega) only [w32_id, w64_id] at *; omega) | (simp only [w32, w64] at *; omega) | exact (and32_le (by omega) (by omega)).1 | exact (and32_le (by omega) (by omega)).2 | exact (mulR (by omega) (by omega) (by omega) (by omega)).1 | exact (mulR (by omega) (by omega) (by omega) (by omega)).2 | (subst_vars; simp [upZ] at *; omega) | (subst_vars; simp [upZ] at *; simp only [w32, w64] at *; omega))⟩))
    | ((fail_if_success (first | (with_reducible show _ ≤ _) | (with_reducible show _ = _) | (with_reducible show _ ∨ _) | (with_reducible show _ < _) | (with_reducible show G _ _ _ _))); exact Exists.intro _ (Exists.intro _ ⟨rfl, rfl, by assumption, by assumption⟩))
    | ((fail_if_success (first | (with_reducible show _ ≤ _) | (with_reducible show _ = _) | (with_reducible show _ ∨ _) | (with_reducible show _ < _) | (with_reducible show G _ _ _ _))); exact Exists.intro _ ⟨rfl, rfl, by assumption, by assumption⟩)
    | ((fail_if_success (first | (with_reducible show _ ≤ _) | (with_reducible show _ = _) | (with_reducible show _ ∨ _) | (with_reducible show _ < _) | (with_reducible show G _ _ _ _))); exact Or.inl (Exists.intro _ ⟨rfl, rfl, by assumption, by assumption⟩))
    | ((fail_if_success (first | (with_reducible show _ ≤ _) | (with_reducible show _ = _) | (with_reducible show _ ∨ _) | (with_reducible show _ < _) | (with_reducible show G _ _ _ _))); exact Or.inr (Exists.intro _ ⟨rfl, rfl, by assumption, by assumption⟩))
    | omega
    | rfl
    | exact trivial
    | decide
    | (show (0 : Int) < _; omega)
    | (show (0 : Int) < _; simp only [w64] at *; omega)
    | (simp only [w32, w64] at *; omega)
    | (first | omega | (simp (disch := omega) only [w32_id, w64_id]; omega) | (simp (disch := omega) only [w32_id, w64_id] at *; omega) | (simp only [w32, w64] at *; omega) | exact (and32_le (by omega) (by omega)).1 | exact (and32_le (by omega) (by omega)).2 | exact (mulR (by omega) (by omega) (by omega) (by omega)).1 | exact (mulR (by omega) (by omega) (by omega) (by omega)).2 | (subst_vars; simp [upZ] at *; omega) | (subst_vars; simp [upZ] at *; simp only [w32, w64] at *; omega))
    | skip
def s_X9_isTooSlow : Sp := wspI 3 9 (fun as Z => match as with
    | [.inr (.inr a0), .inl a1, .inl a2] => ((a0 = 95)) ∧ (True) ∧ (True) ∧ True
    | _ => False) (fun as => match as with
    | [.inr (.inr a0), .inl a1, .inl a2] => []
    | _ => []) 0 1
set_option maxRecDepth 100000 in
set_option maxHeartbeats 40000000 in
theorem c_X9_isTooSlow {l : Launch} {D : va_G} {cA : Nat → ClassId} : PM l D cA yX9_isTooSlow cX9_isTooSlow 4 (some .boolean) 0 0 s_X9_isTooSlow := by
  refine of_X9_isTooSlow  (fun as σ hwf hao hpre => ?_)
  obtain ⟨n, Z, R⟩ := σ
  obtain ⟨hR, hI, hpre⟩ := hpre
  obtain rfl : R = R0 := hR
  rcases as with _ | ⟨x | x | a0, _ | ⟨a1 | x | x, _ | ⟨a2 | x | x, _ | ⟨v, t⟩⟩⟩⟩ <;> first | exact (hpre : False).elim | skip
  obtain ⟨k1l, k1u⟩ : okI a1 := hao (vi a1) (by simp)
  obtain ⟨k2l, k2u⟩ : okI a2 := hao (vi a2) (by simp)
  obtain ⟨h0, h1, h2, -⟩ := hpre
  have hk : keeps ([]) Z Z := keeps_refl
  refine ⟨Nat.le_of_ble_eq_true rfl, fun G hG => ?_⟩
  clear hao hwf
  obtain rfl := h0
  have loop : ∀ fuel : Nat, (∀ (Z1 : ZT) (v3 : Int), CI Z1 → keeps ([]) Z Z1 → ((0 ≤ v3 ∧ v3 ≤ 6) ∧ True) → 7 - v3 ≤ (fuel : Int) → G 2 [(0, vr 95), (1, vi a1), (2, vi a2), (3, vi v3)] [] (n, Z1, R0)) := by
    intro fuel
    induction fuel with
    | zero => exact (by intros; omega)
    | succ fuel ih =>
      have ih2 := ih
      · intro Z1 v3 hI1 hk1 hv hm
        obtain ⟨w0, -⟩ := hv
        clear hk hI
        refine wq_run hG n R0 [2] 900 _ _ _ _ ?_
        repeat' (first
            | with_reducible rfl
            | refine And.intro ?_ ?_
            | with_reducible exact True.intro
            | ((with_reducible show _ = true); rfl)
            | ((with_reducible show recvG _ _); rfl)
            | ((with_reducible show CI _); first | with_reducible assumption | assumption)
            | (fail_if_success (first | (with_reducible show _ ≤ _) | (with_reducible show _ = _) | (with_reducible show _ ∨ _) | (with_reducible show _ < _) | (with_reducible show G _ _ _ _))
               first
               | show G _ _ _ _
               | (intro (Z2 : ZT) hZ2; have hZ3 : Z' = Z2 := hZ2.symm; subst hZ3)
               | (intro (Z2 : ZT) hZ2; have hZ3 : Z1 = Z2 := hZ2.symm; subst hZ3)
               | (intro (Z2 : ZT) hZ2; have hZ3 : Z = Z2 := hZ2.symm; subst hZ3)
               | (refine ld_bnd (by first | with_reducible assumption | assumption) rfl ?_; intro _ _ _ _)
               | (refine st_bnd (by first | with_reducible assumption | assumption) (by first | with_reducible assumption | assumption) (by decide) (fun lo hi hb => by first | (cases hb; done) | (cases hb; constructor <;> (first | omega | (simp (disch := omega) only [w32_id, w64_id]; omega) | (simp (disch := omega) only [w32_id, w64_id] at *; omega) | (simp only [w32, w64] at *; omega) | exact (and32_le (by omega) (by omega)).1 | exact (and32_le (by omega) (by omega)).2 | exact (mulR (by omega) (by omega) (by omega) (by omega)).1 | exact (mulR (by omega) (by omega) (by omega) (by omega)).2 | (subst_vars; simp [upZ] at *; omega) | (subst_vars; simp [upZ] at *; simp only [w32, w64] at *; omega)))) ?_; intro Z' _ _ _)
               | (intro (r : Option PV) σ' hq
                  first
                  | (obtain ⟨rfl, rfl⟩ := hq)
                  | (obtain ⟨Z', x, rfl, rfl, hI2, hk2, hl2, hu2⟩ := hq; have hk3 := keeps_to (by first | with_reducible assumption | assumption) (by rfl) hk2; clear hk2)
                  | (obtain ⟨Z', x, rfl, rfl, hI2, hk2⟩ := hq; have hk3 := keeps_to (by first | with_reducible assumption | assumption) (by rfl) hk2; clear hk2)
                  | (rcases hq with ⟨Z', rfl, rfl, hI2, hk2⟩ | ⟨Z', rfl, rfl, hI2, hk2⟩ <;> (have hk3 := keeps_to (by first | with_reducible assumption | assumption) (by rfl) hk2; clear hk2))
                  | (obtain ⟨Z', rfl, rfl, hI2, hk2⟩ := hq; have hk3 := keeps_to (by first | with_reducible assumption | assumption) (by rfl) hk2; clear hk2))
               | (intro hc; (try simp only [cmp3_c] at hc); simp only [cmpI] at hc)
               | (show CI _; assumption)
               | intro (_ : Int)
               | intro (Z' : ZT)
               | intro (_ : CI _)
               | intro (_ : keeps _ _ _)
               | intro (_ : _ ≤ _)
               | intro (_ : _ = _)
               | intro (_ : _ < _)
               | intro (_ : _ ∨ _)))
        all_goals first
          | with_reducible rfl
          | ((with_reducible show _ = _); rfl)
          | ((with_reducible show recvG _ _); rfl)
          | with_reducible exact trivial
          | ((fail_if_success (first | (with_reducible show _ ≤ _) | (with_reducible show _ = _) | (with_reducible show _ ∨ _) | (with_reducible show _ < _) | (with_reducible show G _ _ _ _))); (refine Exists.intro _ (And.intro rfl (And.intro rfl (And.intro ?_ ?_)))) <;> with_reducible assumption)
          | ((with_reducible show G 2 _ _ _); exact hG.2 2 _ [(0, vr 95), (1, vi a1), (2, vi a2), (3, vi _)] _ _ rfl (ih2 _ _ (by assumption) (by assumption) (by refine ⟨by first | omega | (refine ⟨?_, ?_⟩ <;> (first | omega | (simp (disch := omega) only [w32_id, w64_id]; omega) | (simp (disch := omega) only [w32_id, w64_id] at *; omega) | (simp only [w32, w64] at *; omega) | exact (and32_le (by omega) (by omega)).1 | exact (and32_le (by omega) (by omega)).2 | exact (mulR (by omega) (by omega) (by omega) (by omega)).1 | exact (mulR (by omega) (by omega) (by omega) (by omega)).2 | (subst_vars; simp [upZ] at *; omega) | (subst_vars; simp [upZ] at *; simp only [w32, w64] at *; omega))) | (first | omega | (simp (disch := omega) only [w32_id, w64_id]; omega) | (simp (disch := omega) only [w32_id, w64_id] at *; omega) | (simp only [w32, w64] at *; omega) | exact (and32_le (by omega) (by omega)).1 | exact (and32_le (by omega) (by omega)).2 | exact (mulR (by omega) (by omega) (by omega) (by omega)).1 | exact (mulR (by omega) (by omega) (by omega) (by omega)).2 | (subst_vars; simp [upZ] at *; omega) | (subst_vars; simp [upZ] at *; simp only [w32, w64] at *; omega)), trivial⟩) (by first | omega | (simp (disch := omega) only [w32_id, w64_id]; omega) | (simp (disch := omega) only [w32_id, w64_id] at *; omega) | (simp only [w32, w64] at *; omega) | exact (and32_le (by omega) (by omega)).1 | exact (and32_le (by omega) (by omega)).2 | exact (mulR (by omega) (by omega) (by omega) (by omega)).1 | exact (mulR (by omega) (by omega) (by omega) (by omega)).2 | (subst_vars; simp [upZ] at *; omega) | (subst_vars; simp [upZ] at *; simp only [w32, w64] at *; omega))))
          | ((fail_if_success (first | (with_reducible show _ ≤ _) | (with_reducible show _ = _) | (with_reducible show _ ∨ _) | (with_reducible show _ < _) | (with_reducible show G _ _ _ _))); exact Exists.intro _ (Exists.intro _ ⟨rfl, rfl, by assumption, by assumption, by (first | omega | (simp (disch := omega) only [w32_id, w64_id]; omega) | (simp (disch := omega) only [w32_id, w64_id] at *; omega) | (simp only [w32, w64] at *; omega) | exact (and32_le (by omega) (by omega)).1 | exact (and32_le (by omega) (by omega)).2 | exact (mulR (by omega) (by omega) (by omega) (by omega)).1 | exact (mulR (by omega) (by omega) (by omega) (by omega)).2 | (subst_vars; simp [upZ] at *; omega) | (subst_vars; simp [upZ] at *; simp only [w32, w64] at *; omega)), by (first | omega | (simp (disch := omega) only [w32_id, w64_id]; omega) | (simp (disch := omega) only [w32_id, w64_id] at *; omega) | (simp only [w32, w64] at *; omega) | exact (and32_le (by omega) (by omega)).1 | exact (and32_le (by omega) (by omega)).2 | exact (mulR (by omega) (by omega) (by omega) (by omega)).1 | exact (mulR (by omega) (by omega) (by omega) (by omega)).2 | (subst_vars; simp [upZ] at *; omega) | (subst_vars; simp [upZ] at *; simp only [w32, w64] at *; omega))⟩))
          | ((fail_if_success (first | (with_reducible show _ ≤ _) | (with_reducible show _ = _) | (with_reducible show _ ∨ _) | (with_reducible show _ < _) | (with_reducible show G _ _ _ _))); exact Exists.intro _ (Exists.intro _ ⟨rfl, rfl, by assumption, by assumption⟩))
          | ((fail_if_success (first | (with_reducible show _ ≤ _) | (with_reducible show _ = _) | (with_reducible show _ ∨ _) | (with_reducible show _ < _) | (with_reducible show G _ _ _ _))); exact Exists.intro _ ⟨rfl, rfl, by assumption, by assumption⟩)
          | ((fail_if_success (first | (with_reducible show _ ≤ _) | (with_reducible show _ = _) | (with_reducible show _ ∨ _) | (with_reducible show _ < _) | (with_reducible show G _ _ _ _))); exact Or.inl (Exists.intro _ ⟨rfl, rfl, by assumption, by assumption⟩))
          | ((fail_if_success (first | (with_reducible show _ ≤ _) | (with_reducible show _ = _) | (with_reducible show _ ∨ _) | (with_reducible show _ < _) | (with_reducible show G _ _ _ _))); exact Or.inr (Exists.intro _ ⟨rfl, rfl, by assumption, by assumption⟩))
          | omega
          | rfl
          | exact trivial
          | decide
          | (show (0 : Int) < _; omega)
          | (show (0 : Int) < _; simp only [w64] at *; omega)
          | (simp only [w32, w64] at *; omega)
          | (first | omega | (simp (disch := omega) only [w32_id, w64_id]; omega) | (simp (disch := omega) only [w32_id, w64_id] at *; omega) | (simp only [w32, w64] at *; omega) | exact (and32_le (by omega) (by omega)).1 | exact (and32_le (by omega) (by omega)).2 | exact (mulR (by omega) (by omega) (by omega) (by omega)).1 | exact (mulR (by omega) (by omega) (by omega) (by omega)).2 | (subst_vars; simp [upZ] at *; omega) | (subst_vars; simp [upZ] at *; simp only [w32, w64] at *; omega))
          | skip
  refine wq_run hG n R0 [2] 900 _ _ _ _ ?_
  repeat' (first
      | with_reducible rfl
      | refine And.intro ?_ ?_
      | with_reducible exact True.intro
      | ((with_reducible show _ = true); rfl)
      | ((with_reducible show recvG _ _); rfl)
      | ((with_reducible show CI _); first | with_reducible assumption | assumption)
      | (fail_if_success (first | (with_reducible show _ ≤ _) | (with_reducible show _ = _) | (with_reducible show _ ∨ _) | (with_reducible show _ < _) | (with_reducible show G _ _ _ _))
         first
         | show G _ _ _ _
         | (intro (Z2 : ZT) hZ2; have hZ3 : Z' = Z2 := hZ2.symm; subst hZ3)
         | (intro (Z2 : ZT) hZ2; have hZ3 : Z1 = Z2 := hZ2.symm; subst hZ3)
         | (intro (Z2 : ZT) hZ2; have hZ3 : Z = Z2 := hZ2.symm; subst hZ3)
         | (refine ld_bnd (by first | with_reducible assumption | assumption) rfl ?_; intro _ _ _ _)
         | (refine st_bnd (by first | with_reducible assumption | assumption) (by first | with_reducible assumption | assumption) (by decide) (fun lo hi hb => by first | (cases hb; done) | (cases hb; constructor <;> (first | omega | (simp (disch := omega) only [w32_id, w64_id]; omega) | (simp (disch := omega) only [w32_id, w64_id] at *; omega) | (simp only [w32, w64] at *; omega) | exact (and32_le (by omega) (by omega)).1 | exact (and32_le (by omega) (by omega)).2 | exact (mulR (by omega) (by omega) (by omega) (by omega)).1 | exact (mulR (by omega) (by omega) (by omega) (by omega)).2 | (subst_vars; simp [upZ] at *; omega) | (subst_vars; simp [upZ] at *; simp only [w32, w64] at *; omega)))) ?_; intro Z' _ _ _)
         | (intro (r : Option PV) σ' hq
            first
            | (obtain ⟨rfl, rfl⟩ := hq)
            | (obtain ⟨Z', x, rfl, rfl, hI2, hk2, hl2, hu2⟩ := hq; have hk3 := keeps_to (by first | with_reducible assumption | assumption) (by rfl) hk2; clear hk2)
            | (obtain ⟨Z', x, rfl, rfl, hI2, hk2⟩ := hq; have hk3 := keeps_to (by first | with_reducible assumption | assumption) (by rfl) hk2; clear hk2)
            | (rcases hq with ⟨Z', rfl, rfl, hI2, hk2⟩ | ⟨Z', rfl, rfl, hI2, hk2⟩ <;> (have hk3 := keeps_to (by first | with_reducible assumption | assumption) (by rfl) hk2; clear hk2))
            | (obtain ⟨Z', rfl, rfl, hI2, hk2⟩ := hq; have hk3 := keeps_to (by first | with_reducible assumption | assumption) (by rfl) hk2; clear hk2))
         | (intro hc; (try simp only [cmp3_c] at hc); simp only [cmpI] at hc)
         | (show CI _; assumption)
         | intro (_ : Int)
         | intro (Z' : ZT)
         | intro (_ : CI _)
         | intro (_ : keeps _ _ _)
         | intro (_ : _ ≤ _)
         | intro (_ : _ = _)
         | intro (_ : _ < _)
         | intro (_ : _ ∨ _)))
  all_goals (have lp2 := loop 1000000)
  all_goals first
    | with_reducible rfl
    | ((with_reducible show _ = _); rfl)
    | ((with_reducible show recvG _ _); rfl)
    | with_reducible exact trivial
    | ((fail_if_success (first | (with_reducible show _ ≤ _) | (with_reducible show _ = _) | (with_reducible show _ ∨ _) | (with_reducible show _ < _) | (with_reducible show G _ _ _ _))); (refine Exists.intro _ (And.intro rfl (And.intro rfl (And.intro ?_ ?_)))) <;> with_reducible assumption)
    | ((with_reducible show G 2 _ _ _); exact hG.2 2 _ [(0, vr 95), (1, vi a1), (2, vi a2), (3, vi _)] _ _ rfl (lp2 _ _ (by assumption) (by assumption) (by refine ⟨by first | omega | (refine ⟨?_, ?_⟩ <;> (first | omega | (simp (disch := omega) only [w32_id, w64_id]; omega) | (simp (disch := omega) only [w32_id, w64_id] at *; omega) | (simp only [w32, w64] at *; omega) | exact (and32_le (by omega) (by omega)).1 | exact (and32_le (by omega) (by omega)).2 | exact (mulR (by omega) (by omega) (by omega) (by omega)).1 | exact (mulR (by omega) (by omega) (by omega) (by omega)).2 | (subst_vars; simp [upZ] at *; omega) | (subst_vars; simp [upZ] at *; simp only [w32, w64] at *; omega))) | (first | omega | (simp (disch := omega) only [w32_id, w64_id]; omega) | (simp (disch := omega) only [w32_id, w64_id] at *; omega) | (simp only [w32, w64] at *; omega) | exact (and32_le (by omega) (by omega)).1 | exact (and32_le (by omega) (by omega)).2 | exact (mulR (by omega) (by omega) (by omega) (by omega)).1 | exact (mulR (by omega) (by omega) (by omega) (by omega)).2 | (subst_vars; simp [upZ] at *; omega) | (subst_vars; simp [upZ] at *; simp only [w32, w64] at *; omega)), trivial⟩) (by first | omega | (simp (disch := omega) only [w32_id, w64_id]; omega) | (simp (disch := omega) only [w32_id, w64_id] at *; omega) | (simp only [w32, w64] at *; omega) | exact (and32_le (by omega) (by omega)).1 | exact (and32_le (by omega) (by omega)).2 | exact (mulR (by omega) (by omega) (by omega) (by omega)).1 | exact (mulR (by omega) (by omega) (by omega) (by omega)).2 | (subst_vars; simp [upZ] at *; omega) | (subst_vars; simp [upZ] at *; simp only [w32, w64] at *; omega))))
    | ((fail_if_success (first | (with_reducible show _ ≤ _) | (with_reducible show _ = _) | (with_reducible show _ ∨ _) | (with_reducible show _ < _) | (with_reducible show G _ _ _ _))); exact Exists.intro _ (Exists.intro _ ⟨rfl, rfl, by assumption, by assumption, by (first | omega | (simp (disch := omega) only [w32_id, w64_id]; omega) | (simp (disch := omega) only [w32_id, w64_id] at *; omega) | (simp only [w32, w64] at *; omega) | exact (and32_le (by omega) (by omega)).1 | exact (and32_le (by omega) (by omega)).2 | exact (mulR (by omega) (by omega) (by omega) (by omega)).1 | exact (mulR (by omega) (by omega) (by omega) (by omega)).2 | (subst_vars; simp [upZ] at *; omega) | (subst_vars; simp [upZ] at *; simp only [w32, w64] at *; omega)), by (first | omega | (simp (disch := omega) only [w32_id, w64_id]; omega) | (simp (disch := omega) only [w32_id, w64_id] at *; omega) | (simp only [w32, w64] at *; omega) | exact (and32_le (by omega) (by omega)).1 | exact (and32_le (by omega) (by omega)).2 | exact (mulR (by omega) (by omega) (by omega) (by omega)).1 | exact (mulR (by omega) (by omega) (by omega) (by omega)).2 | (subst_vars; simp [upZ] at *; omega) | (subst_vars; simp [upZ] at *; simp only [w32, w64] at *; omega))⟩))
    | ((fail_if_success (first | (with_reducible show _ ≤ _) | (with_reducible show _ = _) | (with_reducible show _ ∨ _) | (with_reducible show _ < _) | (with_reducible show G _ _ _ _))); exact Exists.intro _ (Exists.intro _ ⟨rfl, rfl, by assumption, by assumption⟩))
    | ((fail_if_success (first | (with_reducible show _ ≤ _) | (with_reducible show _ = _) | (with_reducible show _ ∨ _) | (with_reducible show _ < _) | (with_reducible show G _ _ _ _))); exact Exists.intro _ ⟨rfl, rfl, by assumption, by assumption⟩)
    | ((fail_if_success (first | (with_reducible show _ ≤ _) | (with_reducible show _ = _) | (with_reducible show _ ∨ _) | (with_reducible show _ < _) | (with_reducible show G _ _ _ _))); exact Or.inl (Exists.intro _ ⟨rfl, rfl, by assumption, by assumption⟩))
    | ((fail_if_success (first | (with_reducible show _ ≤ _) | (with_reducible show _ = _) | (with_reducible show _ ∨ _) | (with_reducible show _ < _) | (with_reducible show G _ _ _ _))); exact Or.inr (Exists.intro _ ⟨rfl, rfl, by assumption, by assumption⟩))
    | omega
    | rfl
    | exact trivial
    | decide
    | (show (0 : Int) < _; omega)
    | (show (0 : Int) < _; simp only [w64] at *; omega)
    | (simp only [w32, w64] at *; omega)
    | (first | omega | (simp (disch := omega) only [w32_id, w64_id]; omega) | (simp (disch := omega) only [w32_id, w64_id] at *; omega) | (simp only [w32, w64] at *; omega) | exact (and32_le (by omega) (by omega)).1 | exact (and32_le (by omega) (by omega)).2 | exact (mulR (by omega) (by omega) (by omega) (by omega)).1 | exact (mulR (by omega) (by omega) (by omega) (by omega)).2 | (subst_vars; simp [upZ] at *; omega) | (subst_vars; simp [upZ] at *; simp only [w32, w64] at *; omega))
    | skip
def s_X9_endsAhead : Sp := wspI 5 9 (fun as Z => match as with
    | [.inr (.inr a0), .inr (.inr a1), .inr (.inr a2), .inl a3, .inl a4] => ((a0 = 95)) ∧ ((a1 = 2)) ∧ ((a2 = 86)) ∧ ((0 ≤ a3 ∧ a3 ≤ 12)) ∧ (True) ∧ True
    | _ => False) (fun as => match as with
    | [.inr (.inr a0), .inr (.inr a1), .inr (.inr a2), .inl a3, .inl a4] => [95, 97, 98, 99]
    | _ => []) 0 1
set_option maxRecDepth 100000 in
set_option maxHeartbeats 40000000 in
theorem c_X9_endsAhead {l : Launch} {D : va_G} {cA : Nat → ClassId} : PM l D cA yX9_endsAhead cX9_endsAhead 6 (some .boolean) 4 102 s_X9_endsAhead := by
  refine of_X9_endsAhead (c_X9_addLoads) ⟨rfl, rfl⟩ (c_X9_isTooSlow) ⟨rfl, rfl⟩ (c_X9_reach) ⟨rfl, rfl⟩ (c_X9_lastMinute) ⟨rfl, rfl⟩ (fun as σ hwf hao hpre => ?_)
  obtain ⟨n, Z, R⟩ := σ
  obtain ⟨hR, hI, hpre⟩ := hpre
  obtain rfl : R = R0 := hR
  rcases as with _ | ⟨x | x | a0, _ | ⟨x | x | a1, _ | ⟨x | x | a2, _ | ⟨a3 | x | x, _ | ⟨a4 | x | x, _ | ⟨v, t⟩⟩⟩⟩⟩⟩ <;> first | exact (hpre : False).elim | skip
  obtain ⟨k3l, k3u⟩ : okI a3 := hao (vi a3) (by simp)
  obtain ⟨k4l, k4u⟩ : okI a4 := hao (vi a4) (by simp)
  obtain ⟨h0, h1, h2, h3, h4, -⟩ := hpre
  have hk : keeps ([95, 97, 98, 99]) Z Z := keeps_refl
  refine ⟨Nat.le_of_ble_eq_true rfl, fun G hG => ?_⟩
  clear hao hwf
  obtain rfl := h0
  obtain rfl := h1
  obtain rfl := h2
  have loop : ∀ fuel : Nat, (∀ (Z1 : ZT) (v5 : Int), CI Z1 → keeps ([95, 97, 98, 99]) Z Z1 → ((0 ≤ v5 ∧ v5 ≤ 12) ∧ True) → 13 - v5 ≤ (fuel : Int) → G 9 [(0, vr 95), (1, vr 2), (2, vr 86), (3, vi a3), (4, vi a4), (5, vi v5)] [] (n, Z1, R0)) := by
    intro fuel
    induction fuel with
    | zero => exact (by intros; omega)
    | succ fuel ih =>
      have ih9 := ih
      · intro Z1 v5 hI1 hk1 hv hm
        obtain ⟨w0, -⟩ := hv
        clear hk hI
        refine wq_run hG n R0 [9] 900 _ _ _ _ ?_
        repeat' (first
            | with_reducible rfl
            | refine And.intro ?_ ?_
            | with_reducible exact True.intro
            | ((with_reducible show _ = true); rfl)
            | ((with_reducible show recvG _ _); rfl)
            | ((with_reducible show CI _); first | with_reducible assumption | assumption)
            | (fail_if_success (first | (with_reducible show _ ≤ _) | (with_reducible show _ = _) | (with_reducible show _ ∨ _) | (with_reducible show _ < _) | (with_reducible show G _ _ _ _))
               first
               | show G _ _ _ _
               | (intro (Z2 : ZT) hZ2; have hZ3 : Z' = Z2 := hZ2.symm; subst hZ3)
               | (intro (Z2 : ZT) hZ2; have hZ3 : Z1 = Z2 := hZ2.symm; subst hZ3)
               | (intro (Z2 : ZT) hZ2; have hZ3 : Z = Z2 := hZ2.symm; subst hZ3)
               | (refine ld_bnd (by first | with_reducible assumption | assumption) rfl ?_; intro _ _ _ _)
               | (refine st_bnd (by first | with_reducible assumption | assumption) (by first | with_reducible assumption | assumption) (by decide) (fun lo hi hb => by first | (cases hb; done) | (cases hb; constructor <;> (first | omega | (simp (disch := omega) only [w32_id, w64_id]; omega) | (simp (disch := omega) only [w32_id, w64_id] at *; omega) | (simp only [w32, w64] at *; omega) | exact (and32_le (by omega) (by omega)).1 | exact (and32_le (by omega) (by omega)).2 | exact (mulR (by omega) (by omega) (by omega) (by omega)).1 | exact (mulR (by omega) (by omega) (by omega) (by omega)).2 | (subst_vars; simp [upZ] at *; omega) | (subst_vars; simp [upZ] at *; simp only [w32, w64] at *; omega)))) ?_; intro Z' _ _ _)
               | (intro (r : Option PV) σ' hq
                  first
                  | (obtain ⟨rfl, rfl⟩ := hq)
                  | (obtain ⟨Z', x, rfl, rfl, hI2, hk2, hl2, hu2⟩ := hq; have hk3 := keeps_to (by first | with_reducible assumption | assumption) (by rfl) hk2; clear hk2)
                  | (obtain ⟨Z', x, rfl, rfl, hI2, hk2⟩ := hq; have hk3 := keeps_to (by first | with_reducible assumption | assumption) (by rfl) hk2; clear hk2)
                  | (rcases hq with ⟨Z', rfl, rfl, hI2, hk2⟩ | ⟨Z', rfl, rfl, hI2, hk2⟩ <;> (have hk3 := keeps_to (by first | with_reducible assumption | assumption) (by rfl) hk2; clear hk2))
                  | (obtain ⟨Z', rfl, rfl, hI2, hk2⟩ := hq; have hk3 := keeps_to (by first | with_reducible assumption | assumption) (by rfl) hk2; clear hk2))
               | (intro hc; (try simp only [cmp3_c] at hc); simp only [cmpI] at hc)
               | (show CI _; assumption)
               | intro (_ : Int)
               | intro (Z' : ZT)
               | intro (_ : CI _)
               | intro (_ : keeps _ _ _)
               | intro (_ : _ ≤ _)
               | intro (_ : _ = _)
               | intro (_ : _ < _)
               | intro (_ : _ ∨ _)))
        all_goals first
          | with_reducible rfl
          | ((with_reducible show _ = _); rfl)
          | ((with_reducible show recvG _ _); rfl)
          | with_reducible exact trivial
          | ((fail_if_success (first | (with_reducible show _ ≤ _) | (with_reducible show _ = _) | (with_reducible show _ ∨ _) | (with_reducible show _ < _) | (with_reducible show G _ _ _ _))); (refine Exists.intro _ (And.intro rfl (And.intro rfl (And.intro ?_ ?_)))) <;> with_reducible assumption)
          | ((with_reducible show G 9 _ _ _); exact hG.2 9 _ [(0, vr 95), (1, vr 2), (2, vr 86), (3, vi a3), (4, vi a4), (5, vi _)] _ _ rfl (ih9 _ _ (by assumption) (by assumption) (by refine ⟨by first | omega | (refine ⟨?_, ?_⟩ <;> (first | omega | (simp (disch := omega) only [w32_id, w64_id]; omega) | (simp (disch := omega) only [w32_id, w64_id] at *; omega) | (simp only [w32, w64] at *; omega) | exact (and32_le (by omega) (by omega)).1 | exact (and32_le (by omega) (by omega)).2 | exact (mulR (by omega) (by omega) (by omega) (by omega)).1 | exact (mulR (by omega) (by omega) (by omega) (by omega)).2 | (subst_vars; simp [upZ] at *; omega) | (subst_vars; simp [upZ] at *; simp only [w32, w64] at *; omega))) | (first | omega | (simp (disch := omega) only [w32_id, w64_id]; omega) | (simp (disch := omega) only [w32_id, w64_id] at *; omega) | (simp only [w32, w64] at *; omega) | exact (and32_le (by omega) (by omega)).1 | exact (and32_le (by omega) (by omega)).2 | exact (mulR (by omega) (by omega) (by omega) (by omega)).1 | exact (mulR (by omega) (by omega) (by omega) (by omega)).2 | (subst_vars; simp [upZ] at *; omega) | (subst_vars; simp [upZ] at *; simp only [w32, w64] at *; omega)), trivial⟩) (by first | omega | (simp (disch := omega) only [w32_id, w64_id]; omega) | (simp (disch := omega) only [w32_id, w64_id] at *; omega) | (simp only [w32, w64] at *; omega) | exact (and32_le (by omega) (by omega)).1 | exact (and32_le (by omega) (by omega)).2 | exact (mulR (by omega) (by omega) (by omega) (by omega)).1 | exact (mulR (by omega) (by omega) (by omega) (by omega)).2 | (subst_vars; simp [upZ] at *; omega) | (subst_vars; simp [upZ] at *; simp only [w32, w64] at *; omega))))
          | ((fail_if_success (first | (with_reducible show _ ≤ _) | (with_reducible show _ = _) | (with_reducible show _ ∨ _) | (with_reducible show _ < _) | (with_reducible show G _ _ _ _))); exact Exists.intro _ (Exists.intro _ ⟨rfl, rfl, by assumption, by assumption, by (first | omega | (simp (disch := omega) only [w32_id, w64_id]; omega) | (simp (disch := omega) only [w32_id, w64_id] at *; omega) | (simp only [w32, w64] at *; omega) | exact (and32_le (by omega) (by omega)).1 | exact (and32_le (by omega) (by omega)).2 | exact (mulR (by omega) (by omega) (by omega) (by omega)).1 | exact (mulR (by omega) (by omega) (by omega) (by omega)).2 | (subst_vars; simp [upZ] at *; omega) | (subst_vars; simp [upZ] at *; simp only [w32, w64] at *; omega)), by (first | omega | (simp (disch := omega) only [w32_id, w64_id]; omega) | (simp (disch := omega) only [w32_id, w64_id] at *; omega) | (simp only [w32, w64] at *; omega) | exact (and32_le (by omega) (by omega)).1 | exact (and32_le (by omega) (by omega)).2 | exact (mulR (by omega) (by omega) (by omega) (by omega)).1 | exact (mulR (by omega) (by omega) (by omega) (by omega)).2 | (subst_vars; simp [upZ] at *; omega) | (subst_vars; simp [upZ] at *; simp only [w32, w64] at *; omega))⟩))
          | ((fail_if_success (first | (with_reducible show _ ≤ _) | (with_reducible show _ = _) | (with_reducible show _ ∨ _) | (with_reducible show _ < _) | (with_reducible show G _ _ _ _))); exact Exists.intro _ (Exists.intro _ ⟨rfl, rfl, by assumption, by assumption⟩))
          | ((fail_if_success (first | (with_reducible show _ ≤ _) | (with_reducible show _ = _) | (with_reducible show _ ∨ _) | (with_reducible show _ < _) | (with_reducible show G _ _ _ _))); exact Exists.intro _ ⟨rfl, rfl, by assumption, by assumption⟩)
          | ((fail_if_success (first | (with_reducible show _ ≤ _) | (with_reducible show _ = _) | (with_reducible show _ ∨ _) | (with_reducible show _ < _) | (with_reducible show G _ _ _ _))); exact Or.inl (Exists.intro _ ⟨rfl, rfl, by assumption, by assumption⟩))
          | ((fail_if_success (first | (with_reducible show _ ≤ _) | (with_reducible show _ = _) | (with_reducible show _ ∨ _) | (with_reducible show _ < _) | (with_reducible show G _ _ _ _))); exact Or.inr (Exists.intro _ ⟨rfl, rfl, by assumption, by assumption⟩))
          | omega
          | rfl
          | exact trivial
          | decide
          | (show (0 : Int) < _; omega)
          | (show (0 : Int) < _; simp only [w64] at *; omega)
          | (simp only [w32, w64] at *; omega)
          | (first | omega | (simp (disch := omega) only [w32_id, w64_id]; omega) | (simp (disch := omega) only [w32_id, w64_id] at *; omega) | (simp only [w32, w64] at *; omega) | exact (and32_le (by omega) (by omega)).1 | exact (and32_le (by omega) (by omega)).2 | exact (mulR (by omega) (by omega) (by omega) (by omega)).1 | exact (mulR (by omega) (by omega) (by omega) (by omega)).2 | (subst_vars; simp [upZ] at *; omega) | (subst_vars; simp [upZ] at *; simp only [w32, w64] at *; omega))
          | skip
  refine wq_run hG n R0 [9] 900 _ _ _ _ ?_
  repeat' (first
      | with_reducible rfl
      | refine And.intro ?_ ?_
      | with_reducible exact True.intro
      | ((with_reducible show _ = true); rfl)
      | ((with_reducible show recvG _ _); rfl)
      | ((with_reducible show CI _); first | with_reducible assumption | assumption)
      | (fail_if_success (first | (with_reducible show _ ≤ _) | (with_reducible show _ = _) | (with_reducible show _ ∨ _) | (with_reducible show _ < _) | (with_reducible show G _ _ _ _))
         first
         | show G _ _ _ _
         | (intro (Z2 : ZT) hZ2; have hZ3 : Z' = Z2 := hZ2.symm; subst hZ3)
         | (intro (Z2 : ZT) hZ2; have hZ3 : Z1 = Z2 := hZ2.symm; subst hZ3)
         | (intro (Z2 : ZT) hZ2; have hZ3 : Z = Z2 := hZ2.symm; subst hZ3)
         | (refine ld_bnd (by first | with_reducible assumption | assumption) rfl ?_; intro _ _ _ _)
         | (refine st_bnd (by first | with_reducible assumption | assumption) (by first | with_reducible assumption | assumption) (by decide) (fun lo hi hb => by first | (cases hb; done) | (cases hb; constructor <;> (first | omega | (simp (disch := omega) only [w32_id, w64_id]; omega) | (simp (disch := omega) only [w32_id, w64_id] at *; omega) | (simp only [w32, w64] at *; omega) | exact (and32_le (by omega) (by omega)).1 | exact (and32_le (by omega) (by omega)).2 | exact (mulR (by omega) (by omega) (by omega) (by omega)).1 | exact (mulR (by omega) (by omega) (by omega) (by omega)).2 | (subst_vars; simp [upZ] at *; omega) | (subst_vars; simp [upZ] at *; simp only [w32, w64] at *; omega)))) ?_; intro Z' _ _ _)
         | (intro (r : Option PV) σ' hq
            first
            | (obtain ⟨rfl, rfl⟩ := hq)
            | (obtain ⟨Z', x, rfl, rfl, hI2, hk2, hl2, hu2⟩ := hq; have hk3 := keeps_to (by first | with_reducible assumption | assumption) (by rfl) hk2; clear hk2)
            | (obtain ⟨Z', x, rfl, rfl, hI2, hk2⟩ := hq; have hk3 := keeps_to (by first | with_reducible assumption | assumption) (by rfl) hk2; clear hk2)
            | (rcases hq with ⟨Z', rfl, rfl, hI2, hk2⟩ | ⟨Z', rfl, rfl, hI2, hk2⟩ <;> (have hk3 := keeps_to (by first | with_reducible assumption | assumption) (by rfl) hk2; clear hk2))
            | (obtain ⟨Z', rfl, rfl, hI2, hk2⟩ := hq; have hk3 := keeps_to (by first | with_reducible assumption | assumption) (by rfl) hk2; clear hk2))
         | (intro hc; (try simp only [cmp3_c] at hc); simp only [cmpI] at hc)
         | (show CI _; assumption)
         | intro (_ : Int)
         | intro (Z' : ZT)
         | intro (_ : CI _)
         | intro (_ : keeps _ _ _)
         | intro (_ : _ ≤ _)
         | intro (_ : _ = _)
         | intro (_ : _ < _)
         | intro (_ : _ ∨ _)))
  all_goals (have lp9 := loop 1000000)
  all_goals first
    | with_reducible rfl
    | ((with_reducible show _ = _); rfl)
    | ((with_reducible show recvG _ _); rfl)
    | with_reducible exact trivial
    | ((fail_if_success (first | (with_reducible show _ ≤ _) | (with_reducible show _ = _) | (with_reducible show _ ∨ _) | (with_reducible show _ < _) | (with_reducible show G _ _ _ _))); (refine Exists.intro _ (And.intro rfl (And.intro rfl (And.intro ?_ ?_)))) <;> with_reducible assumption)
    | ((with_reducible show G 9 _ _ _); exact hG.2 9 _ [(0, vr 95), (1, vr 2), (2, vr 86), (3, vi a3), (4, vi a4), (5, vi _)] _ _ rfl (lp9 _ _ (by assumption) (by assumption) (by refine ⟨by first | omega | (refine ⟨?_, ?_⟩ <;> (first | omega | (simp (disch := omega) only [w32_id, w64_id]; omega) | (simp (disch := omega) only [w32_id, w64_id] at *; omega) | (simp only [w32, w64] at *; omega) | exact (and32_le (by omega) (by omega)).1 | exact (and32_le (by omega) (by omega)).2 | exact (mulR (by omega) (by omega) (by omega) (by omega)).1 | exact (mulR (by omega) (by omega) (by omega) (by omega)).2 | (subst_vars; simp [upZ] at *; omega) | (subst_vars; simp [upZ] at *; simp only [w32, w64] at *; omega))) | (first | omega | (simp (disch := omega) only [w32_id, w64_id]; omega) | (simp (disch := omega) only [w32_id, w64_id] at *; omega) | (simp only [w32, w64] at *; omega) | exact (and32_le (by omega) (by omega)).1 | exact (and32_le (by omega) (by omega)).2 | exact (mulR (by omega) (by omega) (by omega) (by omega)).1 | exact (mulR (by omega) (by omega) (by omega) (by omega)).2 | (subst_vars; simp [upZ] at *; omega) | (subst_vars; simp [upZ] at *; simp only [w32, w64] at *; omega)), trivial⟩) (by first | omega | (simp (disch := omega) only [w32_id, w64_id]; omega) | (simp (disch := omega) only [w32_id, w64_id] at *; omega) | (simp only [w32, w64] at *; omega) | exact (and32_le (by omega) (by omega)).1 | exact (and32_le (by omega) (by omega)).2 | exact (mulR (by omega) (by omega) (by omega) (by omega)).1 | exact (mulR (by omega) (by omega) (by omega) (by omega)).2 | (subst_vars; simp [upZ] at *; omega) | (subst_vars; simp [upZ] at *; simp only [w32, w64] at *; omega))))
    | ((fail_if_success (first | (with_reducible show _ ≤ _) | (with_reducible show _ = _) | (with_reducible show _ ∨ _) | (with_reducible show _ < _) | (with_reducible show G _ _ _ _))); exact Exists.intro _ (Exists.intro _ ⟨rfl, rfl, by assumption, by assumption, by (first | omega | (simp (disch := omega) only [w32_id, w64_id]; omega) | (simp (disch := omega) only [w32_id, w64_id] at *; omega) | (simp only [w32, w64] at *; omega) | exact (and32_le (by omega) (by omega)).1 | exact (and32_le (by omega) (by omega)).2 | exact (mulR (by omega) (by omega) (by omega) (by omega)).1 | exact (mulR (by omega) (by omega) (by omega) (by omega)).2 | (subst_vars; simp [upZ] at *; omega) | (subst_vars; simp [upZ] at *; simp only [w32, w64] at *; omega)), by (first | omega | (simp (disch := omega) only [w32_id, w64_id]; omega) | (simp (disch := omega) only [w32_id, w64_id] at *; omega) | (simp only [w32, w64] at *; omega) | exact (and32_le (by omega) (by omega)).1 | exact (and32_le (by omega) (by omega)).2 | exact (mulR (by omega) (by omega) (by omega) (by omega)).1 | exact (mulR (by omega) (by omega) (by omega) (by omega)).2 | (subst_vars; simp [upZ] at *; omega) | (subst_vars; simp [upZ] at *; simp only [w32, w64] at *; omega))⟩))
    | ((fail_if_success (first | (with_reducible show _ ≤ _) | (with_reducible show _ = _) | (with_reducible show _ ∨ _) | (with_reducible show _ < _) | (with_reducible show G _ _ _ _))); exact Exists.intro _ (Exists.intro _ ⟨rfl, rfl, by assumption, by assumption⟩))
    | ((fail_if_success (first | (with_reducible show _ ≤ _) | (with_reducible show _ = _) | (with_reducible show _ ∨ _) | (with_reducible show _ < _) | (with_reducible show G _ _ _ _))); exact Exists.intro _ ⟨rfl, rfl, by assumption, by assumption⟩)
    | ((fail_if_success (first | (with_reducible show _ ≤ _) | (with_reducible show _ = _) | (with_reducible show _ ∨ _) | (with_reducible show _ < _) | (with_reducible show G _ _ _ _))); exact Or.inl (Exists.intro _ ⟨rfl, rfl, by assumption, by assumption⟩))
    | ((fail_if_success (first | (with_reducible show _ ≤ _) | (with_reducible show _ = _) | (with_reducible show _ ∨ _) | (with_reducible show _ < _) | (with_reducible show G _ _ _ _))); exact Or.inr (Exists.intro _ ⟨rfl, rfl, by assumption, by assumption⟩))
    | omega
    | rfl
    | exact trivial
    | decide
    | (show (0 : Int) < _; omega)
    | (show (0 : Int) < _; simp only [w64] at *; omega)
    | (simp only [w32, w64] at *; omega)
    | (first | omega | (simp (disch := omega) only [w32_id, w64_id]; omega) | (simp (disch := omega) only [w32_id, w64_id] at *; omega) | (simp only [w32, w64] at *; omega) | exact (and32_le (by omega) (by omega)).1 | exact (and32_le (by omega) (by omega)).2 | exact (mulR (by omega) (by omega) (by omega) (by omega)).1 | exact (mulR (by omega) (by omega) (by omega) (by omega)).2 | (subst_vars; simp [upZ] at *; omega) | (subst_vars; simp [upZ] at *; simp only [w32, w64] at *; omega))
    | skip
def s_X8_take : Sp := wspV 2 8 (fun as Z => match as with
    | [.inr (.inr a0), .inr (.inr a1)] => ((a0 = 93)) ∧ ((a1 = 2)) ∧ True
    | _ => False) (fun as => match as with
    | [.inr (.inr a0), .inr (.inr a1)] => [93, 94]
    | _ => [])
set_option maxRecDepth 100000 in
set_option maxHeartbeats 40000000 in
theorem c_X8_take {l : Launch} {D : va_G} {cA : Nat → ClassId} : PM l D cA yX8_take cX8_take 3 none 2 47 s_X8_take := by
  refine of_X8_take (c_X9_lastMinute) ⟨rfl, rfl⟩ (fun as σ hwf hao hpre => ?_)
  obtain ⟨n, Z, R⟩ := σ
  obtain ⟨hR, hI, hpre⟩ := hpre
  obtain rfl : R = R0 := hR
  rcases as with _ | ⟨x | x | a0, _ | ⟨x | x | a1, _ | ⟨v, t⟩⟩⟩ <;> first | exact (hpre : False).elim | skip
  obtain ⟨h0, h1, -⟩ := hpre
  have hk : keeps ([93, 94]) Z Z := keeps_refl
  refine ⟨Nat.le_of_ble_eq_true rfl, fun G hG => ?_⟩
  clear hao hwf
  obtain rfl := h0
  obtain rfl := h1
  have loop : ∀ fuel : Nat, (∀ (Z1 : ZT) (v2 : Int), CI Z1 → keeps ([93, 94]) Z Z1 → ((0 ≤ v2 ∧ v2 ≤ 36) ∧ True) → 37 - v2 ≤ (fuel : Int) → G 18 [(0, vr 93), (1, vr 2), (2, vi v2)] [] (n, Z1, R0)) := by
    intro fuel
    induction fuel with
    | zero => exact (by intros; omega)
    | succ fuel ih =>
      have ih18 := ih
      · intro Z1 v2 hI1 hk1 hv hm
        obtain ⟨w0, -⟩ := hv
        clear hk hI
        refine wq_run hG n R0 [18] 900 _ _ _ _ ?_
        repeat' (first
            | with_reducible rfl
            | refine And.intro ?_ ?_
            | with_reducible exact True.intro
            | ((with_reducible show _ = true); rfl)
            | ((with_reducible show recvG _ _); rfl)
            | ((with_reducible show CI _); first | with_reducible assumption | assumption)
            | (fail_if_success (first | (with_reducible show _ ≤ _) | (with_reducible show _ = _) | (with_reducible show _ ∨ _) | (with_reducible show _ < _) | (with_reducible show G _ _ _ _))
               first
               | show G _ _ _ _
               | (intro (Z2 : ZT) hZ2; have hZ3 : Z' = Z2 := hZ2.symm; subst hZ3)
               | (intro (Z2 : ZT) hZ2; have hZ3 : Z1 = Z2 := hZ2.symm; subst hZ3)
               | (intro (Z2 : ZT) hZ2; have hZ3 : Z = Z2 := hZ2.symm; subst hZ3)
               | (refine ld_bnd (by first | with_reducible assumption | assumption) rfl ?_; intro _ _ _ _)
               | (refine st_bnd (by first | with_reducible assumption | assumption) (by first | with_reducible assumption | assumption) (by decide) (fun lo hi hb => by first | (cases hb; done) | (cases hb; constructor <;> (first | omega | (simp (disch := omega) only [w32_id, w64_id]; omega) | (simp (disch := omega) only [w32_id, w64_id] at *; omega) | (simp only [w32, w64] at *; omega) | exact (and32_le (by omega) (by omega)).1 | exact (and32_le (by omega) (by omega)).2 | exact (mulR (by omega) (by omega) (by omega) (by omega)).1 | exact (mulR (by omega) (by omega) (by omega) (by omega)).2 | (subst_vars; simp [upZ] at *; omega) | (subst_vars; simp [upZ] at *; simp only [w32, w64] at *; omega)))) ?_; intro Z' _ _ _)
               | (intro (r : Option PV) σ' hq
                  first
                  | (obtain ⟨rfl, rfl⟩ := hq)
                  | (obtain ⟨Z', x, rfl, rfl, hI2, hk2, hl2, hu2⟩ := hq; have hk3 := keeps_to (by first | with_reducible assumption | assumption) (by rfl) hk2; clear hk2)
                  | (obtain ⟨Z', x, rfl, rfl, hI2, hk2⟩ := hq; have hk3 := keeps_to (by first | with_reducible assumption | assumption) (by rfl) hk2; clear hk2)
                  | (rcases hq with ⟨Z', rfl, rfl, hI2, hk2⟩ | ⟨Z', rfl, rfl, hI2, hk2⟩ <;> (have hk3 := keeps_to (by first | with_reducible assumption | assumption) (by rfl) hk2; clear hk2))
                  | (obtain ⟨Z', rfl, rfl, hI2, hk2⟩ := hq; have hk3 := keeps_to (by first | with_reducible assumption | assumption) (by rfl) hk2; clear hk2))
               | (intro hc; (try simp only [cmp3_c] at hc); simp only [cmpI] at hc)
               | (show CI _; assumption)
               | intro (_ : Int)
               | intro (Z' : ZT)
               | intro (_ : CI _)
               | intro (_ : keeps _ _ _)
               | intro (_ : _ ≤ _)
               | intro (_ : _ = _)
               | intro (_ : _ < _)
               | intro (_ : _ ∨ _)))
        all_goals first
          | with_reducible rfl
          | ((with_reducible show _ = _); rfl)
          | ((with_reducible show recvG _ _); rfl)
          | with_reducible exact trivial
          | ((fail_if_success (first | (with_reducible show _ ≤ _) | (with_reducible show _ = _) | (with_reducible show _ ∨ _) | (with_reducible show _ < _) | (with_reducible show G _ _ _ _))); (refine Exists.intro _ (And.intro rfl (And.intro rfl (And.intro ?_ ?_)))) <;> with_reducible assumption)
          | ((with_reducible show G 18 _ _ _); exact hG.2 18 _ [(0, vr 93), (1, vr 2), (2, vi _)] _ _ rfl (ih18 _ _ (by assumption) (by assumption) (by refine ⟨by first | omega | (refine ⟨?_, ?_⟩ <;> (first | omega | (simp (disch := omega) only [w32_id, w64_id]; omega) | (simp (disch := omega) only [w32_id, w64_id] at *; omega) | (simp only [w32, w64] at *; omega) | exact (and32_le (by omega) (by omega)).1 | exact (and32_le (by omega) (by omega)).2 | exact (mulR (by omega) (by omega) (by omega) (by omega)).1 | exact (mulR (by omega) (by omega) (by omega) (by omega)).2 | (subst_vars; simp [upZ] at *; omega) | (subst_vars; simp [upZ] at *; simp only [w32, w64] at *; omega))) | (first | omega | (simp (disch := omega) only [w32_id, w64_id]; omega) | (simp (disch := omega) only [w32_id, w64_id] at *; omega) | (simp only [w32, w64] at *; omega) | exact (and32_le (by omega) (by omega)).1 | exact (and32_le (by omega) (by omega)).2 | exact (mulR (by omega) (by omega) (by omega) (by omega)).1 | exact (mulR (by omega) (by omega) (by omega) (by omega)).2 | (subst_vars; simp [upZ] at *; omega) | (subst_vars; simp [upZ] at *; simp only [w32, w64] at *; omega)), trivial⟩) (by first | omega | (simp (disch := omega) only [w32_id, w64_id]; omega) | (simp (disch := omega) only [w32_id, w64_id] at *; omega) | (simp only [w32, w64] at *; omega) | exact (and32_le (by omega) (by omega)).1 | exact (and32_le (by omega) (by omega)).2 | exact (mulR (by omega) (by omega) (by omega) (by omega)).1 | exact (mulR (by omega) (by omega) (by omega) (by omega)).2 | (subst_vars; simp [upZ] at *; omega) | (subst_vars; simp [upZ] at *; simp only [w32, w64] at *; omega))))
          | ((fail_if_success (first | (with_reducible show _ ≤ _) | (with_reducible show _ = _) | (with_reducible show _ ∨ _) | (with_reducible show _ < _) | (with_reducible show G _ _ _ _))); exact Exists.intro _ (Exists.intro _ ⟨rfl, rfl, by assumption, by assumption, by (first | omega | (simp (disch := omega) only [w32_id, w64_id]; omega) | (simp (disch := omega) only [w32_id, w64_id] at *; omega) | (simp only [w32, w64] at *; omega) | exact (and32_le (by omega) (by omega)).1 | exact (and32_le (by omega) (by omega)).2 | exact (mulR (by omega) (by omega) (by omega) (by omega)).1 | exact (mulR (by omega) (by omega) (by omega) (by omega)).2 | (subst_vars; simp [upZ] at *; omega) | (subst_vars; simp [upZ] at *; simp only [w32, w64] at *; omega)), by (first | omega | (simp (disch := omega) only [w32_id, w64_id]; omega) | (simp (disch := omega) only [w32_id, w64_id] at *; omega) | (simp only [w32, w64] at *; omega) | exact (and32_le (by omega) (by omega)).1 | exact (and32_le (by omega) (by omega)).2 | exact (mulR (by omega) (by omega) (by omega) (by omega)).1 | exact (mulR (by omega) (by omega) (by omega) (by omega)).2 | (subst_vars; simp [upZ] at *; omega) | (subst_vars; simp [upZ] at *; simp only [w32, w64] at *; omega))⟩))
          | ((fail_if_success (first | (with_reducible show _ ≤ _) | (with_reducible show _ = _) | (with_reducible show _ ∨ _) | (with_reducible show _ < _) | (with_reducible show G _ _ _ _))); exact Exists.intro _ (Exists.intro _ ⟨rfl, rfl, by assumption, by assumption⟩))
          | ((fail_if_success (first | (with_reducible show _ ≤ _) | (with_reducible show _ = _) | (with_reducible show _ ∨ _) | (with_reducible show _ < _) | (with_reducible show G _ _ _ _))); exact Exists.intro _ ⟨rfl, rfl, by assumption, by assumption⟩)
          | ((fail_if_success (first | (with_reducible show _ ≤ _) | (with_reducible show _ = _) | (with_reducible show _ ∨ _) | (with_reducible show _ < _) | (with_reducible show G _ _ _ _))); exact Or.inl (Exists.intro _ ⟨rfl, rfl, by assumption, by assumption⟩))
          | ((fail_if_success (first | (with_reducible show _ ≤ _) | (with_reducible show _ = _) | (with_reducible show _ ∨ _) | (with_reducible show _ < _) | (with_reducible show G _ _ _ _))); exact Or.inr (Exists.intro _ ⟨rfl, rfl, by assumption, by assumption⟩))
          | omega
          | rfl
          | exact trivial
          | decide
          | (show (0 : Int) < _; omega)
          | (show (0 : Int) < _; simp only [w64] at *; omega)
          | (simp only [w32, w64] at *; omega)
          | (first | omega | (simp (disch := omega) only [w32_id, w64_id]; omega) | (simp (disch := omega) only [w32_id, w64_id] at *; omega) | (simp only [w32, w64] at *; omega) | exact (and32_le (by omega) (by omega)).1 | exact (and32_le (by omega) (by omega)).2 | exact (mulR (by omega) (by omega) (by omega) (by omega)).1 | exact (mulR (by omega) (by omega) (by omega) (by omega)).2 | (subst_vars; simp [upZ] at *; omega) | (subst_vars; simp [upZ] at *; simp only [w32, w64] at *; omega))
          | skip
  refine wq_run hG n R0 [18] 900 _ _ _ _ ?_
  repeat' (first
      | with_reducible rfl
      | refine And.intro ?_ ?_
      | with_reducible exact True.intro
      | ((with_reducible show _ = true); rfl)
      | ((with_reducible show recvG _ _); rfl)
      | ((with_reducible show CI _); first | with_reducible assumption | assumption)
      | (fail_if_success (first | (with_reducible show _ ≤ _) | (with_reducible show _ = _) | (with_reducible show _ ∨ _) | (with_reducible show _ < _) | (with_reducible show G _ _ _ _))
         first
         | show G _ _ _ _
         | (intro (Z2 : ZT) hZ2; have hZ3 : Z' = Z2 := hZ2.symm; subst hZ3)
         | (intro (Z2 : ZT) hZ2; have hZ3 : Z1 = Z2 := hZ2.symm; subst hZ3)
         | (intro (Z2 : ZT) hZ2; have hZ3 : Z = Z2 := hZ2.symm; subst hZ3)
         | (refine ld_bnd (by first | with_reducible assumption | assumption) rfl ?_; intro _ _ _ _)
         | (refine st_bnd (by first | with_reducible assumption | assumption) (by first | with_reducible assumption | assumption) (by decide) (fun lo hi hb => by first | (cases hb; done) | (cases hb; constructor <;> (first | omega | (simp (disch := omega) only [w32_id, w64_id]; omega) | (simp (disch := omega) only [w32_id, w64_id] at *; omega) | (simp only [w32, w64] at *; omega) | exact (and32_le (by omega) (by omega)).1 | exact (and32_le (by omega) (by omega)).2 | exact (mulR (by omega) (by omega) (by omega) (by omega)).1 | exact (mulR (by omega) (by omega) (by omega) (by omega)).2 | (subst_vars; simp [upZ] at *; omega) | (subst_vars; simp [upZ] at *; simp only [w32, w64] at *; omega)))) ?_; intro Z' _ _ _)
         | (intro (r : Option PV) σ' hq
            first
            | (obtain ⟨rfl, rfl⟩ := hq)
            | (obtain ⟨Z', x, rfl, rfl, hI2, hk2, hl2, hu2⟩ := hq; have hk3 := keeps_to (by first | with_reducible assumption | assumption) (by rfl) hk2; clear hk2)
            | (obtain ⟨Z', x, rfl, rfl, hI2, hk2⟩ := hq; have hk3 := keeps_to (by first | with_reducible assumption | assumption) (by rfl) hk2; clear hk2)
            | (rcases hq with ⟨Z', rfl, rfl, hI2, hk2⟩ | ⟨Z', rfl, rfl, hI2, hk2⟩ <;> (have hk3 := keeps_to (by first | with_reducible assumption | assumption) (by rfl) hk2; clear hk2))
            | (obtain ⟨Z', rfl, rfl, hI2, hk2⟩ := hq; have hk3 := keeps_to (by first | with_reducible assumption | assumption) (by rfl) hk2; clear hk2))
         | (intro hc; (try simp only [cmp3_c] at hc); simp only [cmpI] at hc)
         | (show CI _; assumption)
         | intro (_ : Int)
         | intro (Z' : ZT)
         | intro (_ : CI _)
         | intro (_ : keeps _ _ _)
         | intro (_ : _ ≤ _)
         | intro (_ : _ = _)
         | intro (_ : _ < _)
         | intro (_ : _ ∨ _)))
  all_goals (have lp18 := loop 1000000)
  all_goals first
    | with_reducible rfl
    | ((with_reducible show _ = _); rfl)
    | ((with_reducible show recvG _ _); rfl)
    | with_reducible exact trivial
    | ((fail_if_success (first | (with_reducible show _ ≤ _) | (with_reducible show _ = _) | (with_reducible show _ ∨ _) | (with_reducible show _ < _) | (with_reducible show G _ _ _ _))); (refine Exists.intro _ (And.intro rfl (And.intro rfl (And.intro ?_ ?_)))) <;> with_reducible assumption)
    | ((with_reducible show G 18 _ _ _); exact hG.2 18 _ [(0, vr 93), (1, vr 2), (2, vi _)] _ _ rfl (lp18 _ _ (by assumption) (by assumption) (by refine ⟨by first | omega | (refine ⟨?_, ?_⟩ <;> (first | omega | (simp (disch := omega) only [w32_id, w64_id]; omega) | (simp (disch := omega) only [w32_id, w64_id] at *; omega) | (simp only [w32, w64] at *; omega) | exact (and32_le (by omega) (by omega)).1 | exact (and32_le (by omega) (by omega)).2 | exact (mulR (by omega) (by omega) (by omega) (by omega)).1 | exact (mulR (by omega) (by omega) (by omega) (by omega)).2 | (subst_vars; simp [upZ] at *; omega) | (subst_vars; simp [upZ] at *; simp only [w32, w64] at *; omega))) | (first | omega | (simp (disch := omega) only [w32_id, w64_id]; omega) | (simp (disch := omega) only [w32_id, w64_id] at *; omega) | (simp only [w32, w64] at *; omega) | exact (and32_le (by omega) (by omega)).1 | exact (and32_le (by omega) (by omega)).2 | exact (mulR (by omega) (by omega) (by omega) (by omega)).1 | exact (mulR (by omega) (by omega) (by omega) (by omega)).2 | (subst_vars; simp [upZ] at *; omega) | (subst_vars; simp [upZ] at *; simp only [w32, w64] at *; omega)), trivial⟩) (by first | omega | (simp (disch := omega) only [w32_id, w64_id]; omega) | (simp (disch := omega) only [w32_id, w64_id] at *; omega) | (simp only [w32, w64] at *; omega) | exact (and32_le (by omega) (by omega)).1 | exact (and32_le (by omega) (by omega)).2 | exact (mulR (by omega) (by omega) (by omega) (by omega)).1 | exact (mulR (by omega) (by omega) (by omega) (by omega)).2 | (subst_vars; simp [upZ] at *; omega) | (subst_vars; simp [upZ] at *; simp only [w32, w64] at *; omega))))
    | ((fail_if_success (first | (with_reducible show _ ≤ _) | (with_reducible show _ = _) | (with_reducible show _ ∨ _) | (with_reducible show _ < _) | (with_reducible show G _ _ _ _))); exact Exists.intro _ (Exists.intro _ ⟨rfl, rfl, by assumption, by assumption, by (first | omega | (simp (disch := omega) only [w32_id, w64_id]; omega) | (simp (disch := omega) only [w32_id, w64_id] at *; omega) | (simp only [w32, w64] at *; omega) | exact (and32_le (by omega) (by omega)).1 | exact (and32_le (by omega) (by omega)).2 | exact (mulR (by omega) (by omega) (by omega) (by omega)).1 | exact (mulR (by omega) (by omega) (by omega) (by omega)).2 | (subst_vars; simp [upZ] at *; omega) | (subst_vars; simp [upZ] at *; simp only [w32, w64] at *; omega)), by (first | omega | (simp (disch := omega) only [w32_id, w64_id]; omega) | (simp (disch := omega) only [w32_id, w64_id] at *; omega) | (simp only [w32, w64] at *; omega) | exact (and32_le (by omega) (by omega)).1 | exact (and32_le (by omega) (by omega)).2 | exact (mulR (by omega) (by omega) (by omega) (by omega)).1 | exact (mulR (by omega) (by omega) (by omega) (by omega)).2 | (subst_vars; simp [upZ] at *; omega) | (subst_vars; simp [upZ] at *; simp only [w32, w64] at *; omega))⟩))
    | ((fail_if_success (first | (with_reducible show _ ≤ _) | (with_reducible show _ = _) | (with_reducible show _ ∨ _) | (with_reducible show _ < _) | (with_reducible show G _ _ _ _))); exact Exists.intro _ (Exists.intro _ ⟨rfl, rfl, by assumption, by assumption⟩))
    | ((fail_if_success (first | (with_reducible show _ ≤ _) | (with_reducible show _ = _) | (with_reducible show _ ∨ _) | (with_reducible show _ < _) | (with_reducible show G _ _ _ _))); exact Exists.intro _ ⟨rfl, rfl, by assumption, by assumption⟩)
    | ((fail_if_success (first | (with_reducible show _ ≤ _) | (with_reducible show _ = _) | (with_reducible show _ ∨ _) | (with_reducible show _ < _) | (with_reducible show G _ _ _ _))); exact Or.inl (Exists.intro _ ⟨rfl, rfl, by assumption, by assumption⟩))
    | ((fail_if_success (first | (with_reducible show _ ≤ _) | (with_reducible show _ = _) | (with_reducible show _ ∨ _) | (with_reducible show _ < _) | (with_reducible show G _ _ _ _))); exact Or.inr (Exists.intro _ ⟨rfl, rfl, by assumption, by assumption⟩))
    | omega
    | rfl
    | exact trivial
    | decide
    | (show (0 : Int) < _; omega)
    | (show (0 : Int) < _; simp only [w64] at *; omega)
    | (simp only [w32, w64] at *; omega)
    | (first | omega | (simp (disch := omega) only [w32_id, w64_id]; omega) | (simp (disch := omega) only [w32_id, w64_id] at *; omega) | (simp only [w32, w64] at *; omega) | exact (and32_le (by omega) (by omega)).1 | exact (and32_le (by omega) (by omega)).2 | exact (mulR (by omega) (by omega) (by omega) (by omega)).1 | exact (mulR (by omega) (by omega) (by omega) (by omega)).2 | (subst_vars; simp [upZ] at *; omega) | (subst_vars; simp [upZ] at *; simp only [w32, w64] at *; omega))
    | skip
