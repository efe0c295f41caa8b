/-! ===== weak contracts: plans and settings copied ===== -/
def s_X5_takeAll : Sp := wspV 2 5 (fun as Z => match as with
    | [.inr (.inr a0), .inr (.inr a1)] => (((a0 = 19 ∧ a1 = 8) ∨ (a0 = 19 ∧ a1 = 37) ∨ (a0 = 19 ∧ a1 = 54) ∨ (a0 = 37 ∧ a1 = 19) ∨ (a0 = 54 ∧ a1 = 19))) ∧ (True) ∧ True
    | _ => False) (fun as => match as with
    | [.inr (.inr a0), .inr (.inr a1)] => [a0, a0 + 1, a0 + 2, a0 + 3, a0 + 4, a0 + 5, a0 + 6, a0 + 7, a0 + 8, a0 + 9]
    | _ => [])
set_option maxRecDepth 100000 in
set_option maxHeartbeats 40000000 in
theorem c_X5_takeAll {l : Launch} {D : va_G} {cA : Nat → ClassId} : PM l D cA yX5_takeAll cX5_takeAll 3 none 0 0 s_X5_takeAll := by
  refine of_X5_takeAll  (fun as σ hwf hao hpre => ?_)
  obtain ⟨n, Z, R⟩ := σ
  obtain ⟨hR, hI, hpre⟩ := hpre
  obtain rfl : R = R0 := hR
  rcases as with _ | ⟨x | x | a0, _ | ⟨x | x | a1, _ | ⟨v, t⟩⟩⟩ <;> first | exact (hpre : False).elim | skip
  obtain ⟨h0, h1, -⟩ := hpre
  have hk : keeps ([a0, a0 + 1, a0 + 2, a0 + 3, a0 + 4, a0 + 5, a0 + 6, a0 + 7, a0 + 8, a0 + 9]) Z Z := keeps_refl
  refine ⟨Nat.le_of_ble_eq_true rfl, fun G hG => ?_⟩
  clear hao hwf
  rcases h0 with ⟨rfl, rfl⟩ | ⟨rfl, rfl⟩ | ⟨rfl, rfl⟩ | ⟨rfl, rfl⟩ | ⟨rfl, rfl⟩
  · have loop : ∀ fuel : Nat, (∀ (Z1 : ZT) (v2 : Int), CI Z1 → keeps ([19, 19 + 1, 19 + 2, 19 + 3, 19 + 4, 19 + 5, 19 + 6, 19 + 7, 19 + 8, 19 + 9]) Z Z1 → ((0 ≤ v2 ∧ v2 ≤ 4) ∧ True) → 200 - v2 ≤ (fuel : Int) → G 18 [(0, vr 19), (1, vr 8), (2, vi v2)] [] (n, Z1, R0)) ∧ (∀ (Z1 : ZT) (v2 : Int), CI Z1 → keeps ([19, 19 + 1, 19 + 2, 19 + 3, 19 + 4, 19 + 5, 19 + 6, 19 + 7, 19 + 8, 19 + 9]) Z Z1 → ((0 ≤ v2 ∧ v2 ≤ 80) ∧ True) → 81 - v2 ≤ (fuel : Int) → G 103 [(0, vr 19), (1, vr 8), (2, vi v2)] [] (n, Z1, R0)) := by
      intro fuel
      induction fuel with
      | zero => exact ⟨(by intros; omega), (by intros; omega)⟩
      | succ fuel ih =>
        obtain ⟨ih18, ih103⟩ := ih
        refine ⟨?_, ?_⟩
        · intro Z1 v2 hI1 hk1 hv hm
          obtain ⟨w0, -⟩ := hv
          clear hk hI
          refine wq_run hG n R0 [18, 103] 900 _ _ _ _ ?_
          repeat' (first
              | with_reducible rfl
              | refine And.intro ?_ ?_
              | with_reducible exact True.intro
              | ((with_reducible show _ = true); rfl)
              | ((with_reducible show recvG _ _); rfl)
              | ((with_reducible show CI _); first | with_reducible assumption | assumption)
              | (fail_if_success (first | (with_reducible show _ ≤ _) | (with_reducible show _ = _) | (with_reducible show _ ∨ _) | (with_reducible show _ < _) | (with_reducible show G _ _ _ _))
                 first
                 | show G _ _ _ _
                 | (intro (Z2 : ZT) hZ2; have hZ3 : Z' = Z2 := hZ2.symm; subst hZ3)
                 | (intro (Z2 : ZT) hZ2; have hZ3 : Z1 = Z2 := hZ2.symm; subst hZ3)
                 | (intro (Z2 : ZT) hZ2; have hZ3 : Z = Z2 := hZ2.symm; subst hZ3)
                 | (refine ld_bnd (by first | with_reducible assumption | assumption) rfl ?_; intro _ _ _ _)
                 | (refine st_bnd (by first | with_reducible assumption | assumption) (by first | with_reducible assumption | assumption) (by decide) (fun lo hi hb => by first | (cases hb; done) | (cases hb; constructor <;> (first | omega | (simp (disch := omega) only [w32_id, w64_id]; omega) | (simp (disch := omega) only [w32_id, w64_id] at *; omega) | (simp only [w32, w64] at *; omega) | exact (and32_le (by omega) (by omega)).1 | exact (and32_le (by omega) (by omega)).2 | exact (mulR (by omega) (by omega) (by omega) (by omega)).1 | exact (mulR (by omega) (by omega) (by omega) (by omega)).2 | (subst_vars; simp [upZ] at *; omega) | (subst_vars; simp [upZ] at *; simp only [w32, w64] at *; omega)))) ?_; intro Z' _ _ _)
                 | (intro (r : Option PV) σ' hq
                    first
                    | (obtain ⟨rfl, rfl⟩ := hq)
                    | (obtain ⟨Z', x, rfl, rfl, hI2, hk2, hl2, hu2⟩ := hq; have hk3 := keeps_to (by first | with_reducible assumption | assumption) (by rfl) hk2; clear hk2)
                    | (obtain ⟨Z', x, rfl, rfl, hI2, hk2⟩ := hq; have hk3 := keeps_to (by first | with_reducible assumption | assumption) (by rfl) hk2; clear hk2)
                    | (rcases hq with ⟨Z', rfl, rfl, hI2, hk2⟩ | ⟨Z', rfl, rfl, hI2, hk2⟩ <;> (have hk3 := keeps_to (by first | with_reducible assumption | assumption) (by rfl) hk2; clear hk2))
                    | (obtain ⟨Z', rfl, rfl, hI2, hk2⟩ := hq; have hk3 := keeps_to (by first | with_reducible assumption | assumption) (by rfl) hk2; clear hk2))
                 | (intro hc; (try simp only [cmp3_c] at hc); simp only [cmpI] at hc)
                 | (show CI _; assumption)
                 | intro (_ : Int)
                 | intro (Z' : ZT)
                 | intro (_ : CI _)
                 | intro (_ : keeps _ _ _)
                 | intro (_ : _ ≤ _)
                 | intro (_ : _ = _)
                 | intro (_ : _ < _)
                 | intro (_ : _ ∨ _)))
          all_goals first
            | with_reducible rfl
            | ((with_reducible show _ = _); rfl)
            | ((with_reducible show recvG _ _); rfl)
            | with_reducible exact trivial
            | ((fail_if_success (first | (with_reducible show _ ≤ _) | (with_reducible show _ = _) | (with_reducible show _ ∨ _) | (with_reducible show _ < _) | (with_reducible show G _ _ _ _))); (refine Exists.intro _ (And.intro rfl (And.intro rfl (And.intro ?_ ?_)))) <;> with_reducible assumption)
            | ((with_reducible show G 18 _ _ _); exact hG.2 18 _ [(0, vr 19), (1, vr 8), (2, vi _)] _ _ rfl (ih18 _ _ (by assumption) (by assumption) (by refine ⟨by first | omega | (refine ⟨?_, ?_⟩ <;> (first | omega | (simp (disch := omega) only [w32_id, w64_id]; omega) | (simp (disch := omega) only [w32_id, w64_id] at *; omega) | (simp only [w32, w64] at *; omega) | exact (and32_le (by omega) (by omega)).1 | exact (and32_le (by omega) (by omega)).2 | exact (mulR (by omega) (by omega) (by omega) (by omega)).1 | exact (mulR (by omega) (by omega) (by omega) (by omega)).2 | (subst_vars; simp [upZ] at *; omega) | (subst_vars; simp [upZ] at *; simp only [w32, w64] at *; omega))) | (first | omega | (simp (disch := omega) only [w32_id, w64_id]; omega) | (simp (disch := omega) only [w32_id, w64_id] at *; omega) | (simp only [w32, w64] at *; omega) | exact (and32_le (by omega) (by omega)).1 | exact (and32_le (by omega) (by omega)).2 | exact (mulR (by omega) (by omega) (by omega) (by omega)).1 | exact (mulR (by omega) (by omega) (by omega) (by omega)).2 | (subst_vars; simp [upZ] at *; omega) | (subst_vars; simp [upZ] at *; simp only [w32, w64] at *; omega)), trivial⟩) (by first | omega | (simp (disch := omega) only [w32_id, w64_id]; omega) | (simp (disch := omega) only [w32_id, w64_id] at *; omega) | (simp only [w32, w64] at *; omega) | exact (and32_le (by omega) (by omega)).1 | exact (and32_le (by omega) (by omega)).2 | exact (mulR (by omega) (by omega) (by omega) (by omega)).1 | exact (mulR (by omega) (by omega) (by omega) (by omega)).2 | (subst_vars; simp [upZ] at *; omega) | (subst_vars; simp [upZ] at *; simp only [w32, w64] at *; omega))))
            | ((with_reducible show G 103 _ _ _); exact hG.2 103 _ [(0, vr 19), (1, vr 8), (2, vi _)] _ _ rfl (ih103 _ _ (by assumption) (by assumption) (by refine ⟨by first | omega | (refine ⟨?_, ?_⟩ <;> (first | omega | (simp (disch := omega) only [w32_id, w64_id]; omega) | (simp (disch := omega) only [w32_id, w64_id] at *; omega) | (simp only [w32, w64] at *; omega) | exact (and32_le (by omega) (by omega)).1 | exact (and32_le (by omega) (by omega)).2 | exact (mulR (by omega) (by omega) (by omega) (by omega)).1 | exact (mulR (by omega) (by omega) (by omega) (by omega)).2 | (subst_vars; simp [upZ] at *; omega) | (subst_vars; simp [upZ] at *; simp only [w32, w64] at *; omega))) | (first | omega | (simp (disch := omega) only [w32_id, w64_id]; omega) | (simp (disch := omega) only [w32_id, w64_id] at *; omega) | (simp only [w32, w64] at *; omega) | exact (and32_le (by omega) (by omega)).1 | exact (and32_le (by omega) (by omega)).2 | exact (mulR (by omega) (by omega) (by omega) (by omega)).1 | exact (mulR (by omega) (by omega) (by omega) (by omega)).2 | (subst_vars; simp [upZ] at *; omega) | (subst_vars; simp [upZ] at *; simp only [w32, w64] at *; omega)), trivial⟩) (by first | omega | (simp (disch := omega) only [w32_id, w64_id]; omega) | (simp (disch := omega) only [w32_id, w64_id] at *; omega) | (simp only [w32, w64] at *; omega) | exact (and32_le (by omega) (by omega)).1 | exact (and32_le (by omega) (by omega)).2 | exact (mulR (by omega) (by omega) (by omega) (by omega)).1 | exact (mulR (by omega) (by omega) (by omega) (by omega)).2 | (subst_vars; simp [upZ] at *; omega) | (subst_vars; simp [upZ] at *; simp only [w32, w64] at *; omega))))
            | ((fail_if_success (first | (with_reducible show _ ≤ _) | (with_reducible show _ = _) | (with_reducible show _ ∨ _) | (with_reducible show _ < _) | (with_reducible show G _ _ _ _))); exact Exists.intro _ (Exists.intro _ ⟨rfl, rfl, by assumption, by assumption, by (first | omega | (simp (disch := omega) only [w32_id, w64_id]; omega) | (simp (disch := omega) only [w32_id, w64_id] at *; omega) | (simp only [w32, w64] at *; omega) | exact (and32_le (by omega) (by omega)).1 | exact (and32_le (by omega) (by omega)).2 | exact (mulR (by omega) (by omega) (by omega) (by omega)).1 | exact (mulR (by omega) (by omega) (by omega) (by omega)).2 | (subst_vars; simp [upZ] at *; omega) | (subst_vars; simp [upZ] at *; simp only [w32, w64] at *; omega)), by (first | omega | (simp (disch := omega) only [w32_id, w64_id]; omega) | (simp (disch := omega) only [w32_id, w64_id] at *; omega) | (simp only [w32, w64] at *; omega) | exact (and32_le (by omega) (by omega)).1 | exact (and32_le (by omega) (by omega)).2 | exact (mulR (by omega) (by omega) (by omega) (by omega)).1 | exact (mulR (by omega) (by omega) (by omega) (by omega)).2 | (subst_vars; simp [upZ] at *; omega) | (subst_vars; simp [upZ] at *; simp only [w32, w64] at *; omega))⟩))
            | ((fail_if_success (first | (with_reducible show _ ≤ _) | (with_reducible show _ = _) | (with_reducible show _ ∨ _) | (with_reducible show _ < _) | (with_reducible show G _ _ _ _))); exact Exists.intro _ (Exists.intro _ ⟨rfl, rfl, by assumption, by assumption⟩))
            | ((fail_if_success (first | (with_reducible show _ ≤ _) | (with_reducible show _ = _) | (with_reducible show _ ∨ _) | (with_reducible show _ < _) | (with_reducible show G _ _ _ _))); exact Exists.intro _ ⟨rfl, rfl, by assumption, by assumption⟩)
            | ((fail_if_success (first | (with_reducible show _ ≤ _) | (with_reducible show _ = _) | (with_reducible show _ ∨ _) | (with_reducible show _ < _) | (with_reducible show G _ _ _ _))); exact Or.inl (Exists.intro _ ⟨rfl, rfl, by assumption, by assumption⟩))
            | ((fail_if_success (first | (with_reducible show _ ≤ _) | (with_reducible show _ = _) | (with_reducible show _ ∨ _) | (with_reducible show _ < _) | (with_reducible show G _ _ _ _))); exact Or.inr (Exists.intro _ ⟨rfl, rfl, by assumption, by assumption⟩))
            | omega
            | rfl
            | exact trivial
            | decide
            | (show (0 : Int) < _; omega)
            | (show (0 : Int) < _; simp only [w64] at *; omega)
            | (simp only [w32, w64] at *; omega)
            | (first | omega | (simp (disch := omega) only [w32_id, w64_id]; omega) | (simp (disch := omega) only [w32_id, w64_id] at *; omega) | (simp only [w32, w64] at *; omega) | exact (and32_le (by omega) (by omega)).1 | exact (and32_le (by omega) (by omega)).2 | exact (mulR (by omega) (by omega) (by omega) (by omega)).1 | exact (mulR (by omega) (by omega) (by omega) (by omega)).2 | (subst_vars; simp [upZ] at *; omega) | (subst_vars; simp [upZ] at *; simp only [w32, w64] at *; omega))
            | skip
        · intro Z1 v2 hI1 hk1 hv hm
          obtain ⟨w0, -⟩ := hv
          clear hk hI
          refine wq_run hG n R0 [18, 103] 900 _ _ _ _ ?_
          repeat' (first
              | with_reducible rfl
              | refine And.intro ?_ ?_
              | with_reducible exact True.intro
              | ((with_reducible show _ = true); rfl)
              | ((with_reducible show recvG _ _); rfl)
              | ((with_reducible show CI _); first | with_reducible assumption | assumption)
              | (fail_if_success (first | (with_reducible show _ ≤ _) | (with_reducible show _ = _) | (with_reducible show _ ∨ _) | (with_reducible show _ < _) | (with_reducible show G _ _ _ _))
                 first
                 | show G _ _ _ _
                 | (intro (Z2 : ZT) hZ2; have hZ3 : Z' = Z2 := hZ2.symm; subst hZ3)
                 | (intro (Z2 : ZT) hZ2; have hZ3 : Z1 = Z2 := hZ2.symm; subst hZ3)
                 | (intro (Z2 : ZT) hZ2; have hZ3 : Z = Z2 := hZ2.symm; subst hZ3)
                 | (refine ld_bnd (by first | with_reducible assumption | assumption) rfl ?_; intro _ _ _ _)
                 | (refine st_bnd (by first | with_reducible assumption | assumption) (by first | with_reducible assumption | assumption) (by decide) (fun lo hi hb => by first | (cases hb; done) | (cases hb; constructor <;> (first | omega | (simp (disch := omega) only [w32_id, w64_id]; omega) | (simp (disch := omega) only [w32_id, w64_id] at *; omega) | (simp only [w32, w64] at *; omega) | exact (and32_le (by omega) (by omega)).1 | exact (and32_le (by omega) (by omega)).2 | exact (mulR (by omega) (by omega) (by omega) (by omega)).1 | exact (mulR (by omega) (by omega) (by omega) (by omega)).2 | (subst_vars; simp [upZ] at *; omega) | (subst_vars; simp [upZ] at *; simp only [w32, w64] at *; omega)))) ?_; intro Z' _ _ _)
                 | (intro (r : Option PV) σ' hq
                    first
                    | (obtain ⟨rfl, rfl⟩ := hq)
                    | (obtain ⟨Z', x, rfl, rfl, hI2, hk2, hl2, hu2⟩ := hq; have hk3 := keeps_to (by first | with_reducible assumption | assumption) (by rfl) hk2; clear hk2)
                    | (obtain ⟨Z', x, rfl, rfl, hI2, hk2⟩ := hq; have hk3 := keeps_to (by first | with_reducible assumption | assumption) (by rfl) hk2; clear hk2)
                    | (rcases hq with ⟨Z', rfl, rfl, hI2, hk2⟩ | ⟨Z', rfl, rfl, hI2, hk2⟩ <;> (have hk3 := keeps_to (by first | with_reducible assumption | assumption) (by rfl) hk2; clear hk2))
                    | (obtain ⟨Z', rfl, rfl, hI2, hk2⟩ := hq; have hk3 := keeps_to (by first | with_reducible assumption | assumption) (by rfl) hk2; clear hk2))
                 | (intro hc; (try simp only [cmp3_c] at hc); simp only [cmpI] at hc)
                 | (show CI _; assumption)
                 | intro (_ : Int)
                 | intro (Z' : ZT)
                 | intro (_ : CI _)
                 | intro (_ : keeps _ _ _)
                 | intro (_ : _ ≤ _)
                 | intro (_ : _ = _)
                 | intro (_ : _ < _)
                 | intro (_ : _ ∨ _)))
          all_goals first
            | with_reducible rfl
            | ((with_reducible show _ = _); rfl)
            | ((with_reducible show recvG _ _); rfl)
            | with_reducible exact trivial
            | ((fail_if_success (first | (with_reducible show _ ≤ _) | (with_reducible show _ = _) | (with_reducible show _ ∨ _) | (with_reducible show _ < _) | (with_reducible show G _ _ _ _))); (refine Exists.intro _ (And.intro rfl (And.intro rfl (And.intro ?_ ?_)))) <;> with_reducible assumption)
            | ((with_reducible show G 18 _ _ _); exact hG.2 18 _ [(0, vr 19), (1, vr 8), (2, vi _)] _ _ rfl (ih18 _ _ (by assumption) (by assumption) (by refine ⟨by first | omega | (refine ⟨?_, ?_⟩ <;> (first | omega | (simp (disch := omega) only [w32_id, w64_id]; omega) | (simp (disch := omega) only [w32_id, w64_id] at *; omega) | (simp only [w32, w64] at *; omega) | exact (and32_le (by omega) (by omega)).1 | exact (and32_le (by omega) (by omega)).2 | exact (mulR (by omega) (by omega) (by omega) (by omega)).1 | exact (mulR (by omega) (by omega) (by omega) (by omega)).2 | (subst_vars; simp [upZ] at *; omega) | (subst_vars; simp [upZ] at *; simp only [w32, w64] at *; omega))) | (first | omega | (simp (disch := omega) only [w32_id, w64_id]; omega) | (simp (disch := omega) only [w32_id, w64_id] at *; omega) | (simp only [w32, w64] at *; omega) | exact (and32_le (by omega) (by omega)).1 | exact (and32_le (by omega) (by omega)).2 | exact (mulR (by omega) (by omega) (by omega) (by omega)).1 | exact (mulR (by omega) (by omega) (by omega) (by omega)).2 | (subst_vars; simp [upZ] at *; omega) | (subst_vars; simp [upZ] at *; simp only [w32, w64] at *; omega)), trivial⟩) (by first | omega | (simp (disch := omega) only [w32_id, w64_id]; omega) | (simp (disch := omega) only [w32_id, w64_id] at *; omega) | (simp only [w32, w64] at *; omega) | exact (and32_le (by omega) (by omega)).1 | exact (and32_le (by omega) (by omega)).2 | exact (mulR (by omega) (by omega) (by omega) (by omega)).1 | exact (mulR (by omega) (by omega) (by omega) (by omega)).2 | (subst_vars; simp [upZ] at *; omega) | (subst_vars; simp [upZ] at *; simp only [w32, w64] at *; omega))))
            | ((with_reducible show G 103 _ _ _); exact hG.2 103 _ [(0, vr 19), (1, vr 8), (2, vi _)] _ _ rfl (ih103 _ _ (by assumption) (by assumption) (by refine ⟨by first | omega | (refine ⟨?_, ?_⟩ <;> (first | omega | (simp (disch := omega) only [w32_id, w64_id]; omega) | (simp (disch := omega) only [w32_id, w64_id] at *; omega) | (simp only [w32, w64] at *; omega) | exact (and32_le (by omega) (by omega)).1 | exact (and32_le (by omega) (by omega)).2 | exact (mulR (by omega) (by omega) (by omega) (by omega)).1 | exact (mulR (by omega) (by omega) (by omega) (by omega)).2 | (subst_vars; simp [upZ] at *; omega) | (subst_vars; simp [upZ] at *; simp only [w32, w64] at *; omega))) | (first | omega | (simp (disch := omega) only [w32_id, w64_id]; omega) | (simp (disch := omega) only [w32_id, w64_id] at *; omega) | (simp only [w32, w64] at *; omega) | exact (and32_le (by omega) (by omega)).1 | exact (and32_le (by omega) (by omega)).2 | exact (mulR (by omega) (by omega) (by omega) (by omega)).1 | exact (mulR (by omega) (by omega) (by omega) (by omega)).2 | (subst_vars; simp [upZ] at *; omega) | (subst_vars; simp [upZ] at *; simp only [w32, w64] at *; omega)), trivial⟩) (by first | omega | (simp (disch := omega) only [w32_id, w64_id]; omega) | (simp (disch := omega) only [w32_id, w64_id] at *; omega) | (simp only [w32, w64] at *; omega) | exact (and32_le (by omega) (by omega)).1 | exact (and32_le (by omega) (by omega)).2 | exact (mulR (by omega) (by omega) (by omega) (by omega)).1 | exact (mulR (by omega) (by omega) (by omega) (by omega)).2 | (subst_vars; simp [upZ] at *; omega) | (subst_vars; simp [upZ] at *; simp only [w32, w64] at *; omega))))
            | ((fail_if_success (first | (with_reducible show _ ≤ _) | (with_reducible show _ = _) | (with_reducible show _ ∨ _) | (with_reducible show _ < _) | (with_reducible show G _ _ _ _))); exact Exists.intro _ (Exists.intro _ ⟨rfl, rfl, by assumption, by assumption, by (first | omega | (simp (disch := omega) only [w32_id, w64_id]; omega) | (simp (disch := omega) only [w32_id, w64_id] at *; omega) | (simp only [w32, w64] at *; omega) | exact (and32_le (by omega) (by omega)).1 | exact (and32_le (by omega) (by omega)).2 | exact (mulR (by omega) (by omega) (by omega) (by omega)).1 | exact (mulR (by omega) (by omega) (by omega) (by omega)).2 | (subst_vars; simp [upZ] at *; omega) | (subst_vars; simp [upZ] at *; simp only [w32, w64] at *; omega)), by (first | omega | (simp (disch := omega) only [w32_id, w64_id]; omega) | (simp (disch := omega) only [w32_id, w64_id] at *; omega) | (simp only [w32, w64] at *; omega) | exact (and32_le (by omega) (by omega)).1 | exact (and32_le (by omega) (by omega)).2 | exact (mulR (by omega) (by omega) (by omega) (by omega)).1 | exact (mulR (by omega) (by omega) (by omega) (by omega)).2 | (subst_vars; simp [upZ] at *; omega) | (subst_vars; simp [upZ] at *; simp only [w32, w64] at *; omega))⟩))
            | ((fail_if_success (first | (with_reducible show _ ≤ _) | (with_reducible show _ = _) | (with_reducible show _ ∨ _) | (with_reducible show _ < _) | (with_reducible show G _ _ _ _))); exact Exists.intro _ (Exists.intro _ ⟨rfl, rfl, by assumption, by assumption⟩))
            | ((fail_if_success (first | (with_reducible show _ ≤ _) | (with_reducible show _ = _) | (with_reducible show _ ∨ _) | (with_reducible show _ < _) | (with_reducible show G _ _ _ _))); exact Exists.intro _ ⟨rfl, rfl, by assumption, by assumption⟩)
            | ((fail_if_success (first | (with_reducible show _ ≤ _) | (with_reducible show _ = _) | (with_reducible show _ ∨ _) | (with_reducible show _ < _) | (with_reducible show G _ _ _ _))); exact Or.inl (Exists.intro _ ⟨rfl, rfl, by assumption, by assumption⟩))
            | ((fail_if_success (first | (with_reducible show _ ≤ _) | (with_reducible show _ = _) | (with_reducible show _ ∨ _) | (with_reducible show _ < _) | (with_reducible show G _ _ _ _))); exact Or.inr (Exists.intro _ ⟨rfl, rfl, by assumption, by assumption⟩))
            | omega
            | rfl
            | exact trivial
            | decide
            | (show (0 : Int) < _; omega)
            | (show (0 : Int) < _; simp only [w64] at *; omega)
            | (simp only [w32, w64] at *; omega)
            | (first | omega | (simp (disch := omega) only [w32_id, w64_id]; omega) | (simp (disch := omega) only [w32_id, w64_id] at *; omega) | (simp only [w32, w64] at *; omega) | exact (and32_le (by omega) (by omega)).1 | exact (and32_le (by omega) (by omega)).2 | exact (mulR (by omega) (by omega) (by omega) (by omega)).1 | exact (mulR (by omega) (by omega) (by omega) (by omega)).2 | (subst_vars; simp [upZ] at *; omega) | (subst_vars; simp [upZ] at *; simp only [w32, w64] at *; omega))
            | skip
    refine wq_run hG n R0 [18, 103] 900 _ _ _ _ ?_
    repeat' (first
        | with_reducible rfl
        | refine And.intro ?_ ?_
        | with_reducible exact True.intro
        | ((with_reducible show _ = true); rfl)
        | ((with_reducible show recvG _ _); rfl)
        | ((with_reducible show CI _); first | with_reducible assumption | assumption)
        | (fail_if_success (first | (with_reducible show _ ≤ _) | (with_reducible show _ = _) | (with_reducible show _ ∨ _) | (with_reducible show _ < _) | (with_reducible show G _ _ _ _))
           first
           | show G _ _ _ _
           | (intro (Z2 : ZT) hZ2; have hZ3 : Z' = Z2 := hZ2.symm; subst hZ3)
           | (intro (Z2 : ZT) hZ2; have hZ3 : Z1 = Z2 := hZ2.symm; subst hZ3)
           | (intro (Z2 : ZT) hZ2; have hZ3 : Z = Z2 := hZ2.symm; subst hZ3)
           | (refine ld_bnd (by first | with_reducible assumption | assumption) rfl ?_; intro _ _ _ _)
           | (refine st_bnd (by first | with_reducible assumption | assumption) (by first | with_reducible assumption | assumption) (by decide) (fun lo hi hb => by first | (cases hb; done) | (cases hb; constructor <;> (first | omega | (simp (disch := omega) only [w32_id, w64_id]; omega) | (simp (disch := omega) only [w32_id, w64_id] at *; omega) | (simp only [w32, w64] at *; omega) | exact (and32_le (by omega) (by omega)).1 | exact (and32_le (by omega) (by omega)).2 | exact (mulR (by omega) (by omega) (by omega) (by omega)).1 | exact (mulR (by omega) (by omega) (by omega) (by omega)).2 | (subst_vars; simp [upZ] at *; omega) | (subst_vars; simp [upZ] at *; simp only [w32, w64] at *; omega)))) ?_; intro Z' _ _ _)
           | (intro (r : Option PV) σ' hq
              first
              | (obtain ⟨rfl, rfl⟩ := hq)
              | (obtain ⟨Z', x, rfl, rfl, hI2, hk2, hl2, hu2⟩ := hq; have hk3 := keeps_to (by first | with_reducible assumption | assumption) (by rfl) hk2; clear hk2)
              | (obtain ⟨Z', x, rfl, rfl, hI2, hk2⟩ := hq; have hk3 := keeps_to (by first | with_reducible assumption | assumption) (by rfl) hk2; clear hk2)
              | (rcases hq with ⟨Z', rfl, rfl, hI2, hk2⟩ | ⟨Z', rfl, rfl, hI2, hk2⟩ <;> (have hk3 := keeps_to (by first | with_reducible assumption | assumption) (by rfl) hk2; clear hk2))
              | (obtain ⟨Z', rfl, rfl, hI2, hk2⟩ := hq; have hk3 := keeps_to (by first | with_reducible assumption | assumption) (by rfl) hk2; clear hk2))
           | (intro hc; (try simp only [cmp3_c] at hc); simp only [cmpI] at hc)
           | (show CI _; assumption)
           | intro (_ : Int)
           | intro (Z' : ZT)
           | intro (_ : CI _)
           | intro (_ : keeps _ _ _)
           | intro (_ : _ ≤ _)
           | intro (_ : _ = _)
           | intro (_ : _ < _)
           | intro (_ : _ ∨ _)))
    all_goals (try obtain ⟨lp18, lp103⟩ := loop 1000000)
    all_goals first
      | with_reducible rfl
      | ((with_reducible show _ = _); rfl)
      | ((with_reducible show recvG _ _); rfl)
      | with_reducible exact trivial
      | ((fail_if_success (first | (with_reducible show _ ≤ _) | (with_reducible show _ = _) | (with_reducible show _ ∨ _) | (with_reducible show _ < _) | (with_reducible show G _ _ _ _))); (refine Exists.intro _ (And.intro rfl (And.intro rfl (And.intro ?_ ?_)))) <;> with_reducible assumption)
      | ((with_reducible show G 18 _ _ _); exact hG.2 18 _ [(0, vr 19), (1, vr 8), (2, vi _)] _ _ rfl (lp18 _ _ (by assumption) (by assumption) (by refine ⟨by first | omega | (refine ⟨?_, ?_⟩ <;> (first | omega | (simp (disch := omega) only [w32_id, w64_id]; omega) | (simp (disch := omega) only [w32_id, w64_id] at *; omega) | (simp only [w32, w64] at *; omega) | exact (and32_le (by omega) (by omega)).1 | exact (and32_le (by omega) (by omega)).2 | exact (mulR (by omega) (by omega) (by omega) (by omega)).1 | exact (mulR (by omega) (by omega) (by omega) (by omega)).2 | (subst_vars; simp [upZ] at *; omega) | (subst_vars; simp [upZ] at *; simp only [w32, w64] at *; omega))) | (first | omega | (simp (disch := omega) only [w32_id, w64_id]; omega) | (simp (disch := omega) only [w32_id, w64_id] at *; omega) | (simp only [w32, w64] at *; omega) | exact (and32_le (by omega) (by omega)).1 | exact (and32_le (by omega) (by omega)).2 | exact (mulR (by omega) (by omega) (by omega) (by omega)).1 | exact (mulR (by omega) (by omega) (by omega) (by omega)).2 | (subst_vars; simp [upZ] at *; omega) | (subst_vars; simp [upZ] at *; simp only [w32, w64] at *; omega)), trivial⟩) (by first | omega | (simp (disch := omega) only [w32_id, w64_id]; omega) | (simp (disch := omega) only [w32_id, w64_id] at *; omega) | (simp only [w32, w64] at *; omega) | exact (and32_le (by omega) (by omega)).1 | exact (and32_le (by omega) (by omega)).2 | exact (mulR (by omega) (by omega) (by omega) (by omega)).1 | exact (mulR (by omega) (by omega) (by omega) (by omega)).2 | (subst_vars; simp [upZ] at *; omega) | (subst_vars; simp [upZ] at *; simp only [w32, w64] at *; omega))))
      | ((with_reducible show G 103 _ _ _); exact hG.2 103 _ [(0, vr 19), (1, vr 8), (2, vi _)] _ _ rfl (lp103 _ _ (by assumption) (by assumption) (by refine ⟨by first | omega | (refine ⟨?_, ?_⟩ <;> (first | omega | (simp (disch := omega) only [w32_id, w64_id]; omega) | (simp (disch := omega) only [w32_id, w64_id] at *; omega) | (simp only [w32, w64] at *; omega) | exact (and32_le (by omega) (by omega)).1 | exact (and32_le (by omega) (by omega)).2 | exact (mulR (by omega) (by omega) (by omega) (by omega)).1 | exact (mulR (by omega) (by omega) (by omega) (by omega)).2 | (subst_vars; simp [upZ] at *; omega) | (subst_vars; simp [upZ] at *; simp only [w32, w64] at *; omega))) | (first | omega | (simp (disch := omega) only [w32_id, w64_id]; omega) | (simp (disch := omega) only [w32_id, w64_id] at *; omega) | (simp only [w32, w64] at *; omega) | exact (and32_le (by omega) (by omega)).1 | exact (and32_le (by omega) (by omega)).2 | exact (mulR (by omega) (by omega) (by omega) (by omega)).1 | exact (mulR (by omega) (by omega) (by omega) (by omega)).2 | (subst_vars; simp [upZ] at *; omega) | (subst_vars; simp [upZ] at *; simp only [w32, w64] at *; omega)), trivial⟩) (by first | omega | (simp (disch := omega) only [w32_id, w64_id]; omega) | (simp (disch := omega) only [w32_id, w64_id] at *; omega) | (simp only [w32, w64] at *; omega) | exact (and32_le (by omega) (by omega)).1 | exact (and32_le (by omega) (by omega)).2 | exact (mulR (by omega) (by omega) (by omega) (by omega)).1 | exact (mulR (by omega) (by omega) (by omega) (by omega)).2 | (subst_vars; simp [upZ] at *; omega) | (subst_vars; simp [upZ] at *; simp only [w32, w64] at *; omega))))
      | ((fail_if_success (first | (with_reducible show _ ≤ _) | (with_reducible show _ = _) | (with_reducible show _ ∨ _) | (with_reducible show _ < _) | (with_reducible show G _ _ _ _))); exact Exists.intro _ (Exists.intro _ ⟨rfl, rfl, by assumption, by assumption, by (first | omega | (simp (disch := omega) only [w32_id, w64_id]; omega) | (simp (disch := omega) only [w32_id, w64_id] at *; omega) | (simp only [w32, w64] at *; omega) | exact (and32_le (by omega) (by omega)).1 | exact (and32_le (by omega) (by omega)).2 | exact (mulR (by omega) (by omega) (by omega) (by omega)).1 | exact (mulR (by omega) (by omega) (by omega) (by omega)).2 | (subst_vars; simp [upZ] at *; omega) | (subst_vars; simp [upZ] at *; simp only [w32, w64] at *; omega)), by (first | omega | (simp (disch := omega) only [w32_id, w64_id]; omega) | (simp (disch := omega) only [w32_id, w64_id] at *; omega) | (simp only [w32, w64] at *; omega) | exact (and32_le (by omega) (by omega)).1 | exact (and32_le (by omega) (by omega)).2 | exact (mulR (by omega) (by omega) (by omega) (by omega)).1 | exact (mulR (by omega) (by omega) (by omega) (by omega)).2 | (subst_vars; simp [upZ] at *; omega) | (subst_vars; simp [upZ] at *; simp only [w32, w64] at *; omega))⟩))
      | ((fail_if_success (first | (with_reducible show _ ≤ _) | (with_reducible show _ = _) | (with_reducible show _ ∨ _) | (with_reducible show _ < _) | (with_reducible show G _ _ _ _))); exact Exists.intro _ (Exists.intro _ ⟨rfl, rfl, by assumption, by assumption⟩))
      | ((fail_if_success (first | (with_reducible show _ ≤ _) | (with_reducible show _ = _) | (with_reducible show _ ∨ _) | (with_reducible show _ < _) | (with_reducible show G _ _ _ _))); exact Exists.intro _ ⟨rfl, rfl, by assumption, by assumption⟩)
      | ((fail_if_success (first | (with_reducible show _ ≤ _) | (with_reducible show _ = _) | (with_reducible show _ ∨ _) | (with_reducible show _ < _) | (with_reducible show G _ _ _ _))); exact Or.inl (Exists.intro _ ⟨rfl, rfl, by assumption, by assumption⟩))
      | ((fail_if_success (first | (with_reducible show _ ≤ _) | (with_reducible show _ = _) | (with_reducible show _ ∨ _) | (with_reducible show _ < _) | (with_reducible show G _ _ _ _))); exact Or.inr (Exists.intro _ ⟨rfl, rfl, by assumption, by assumption⟩))
      | omega
      | rfl
      | exact trivial
      | decide
      | (show (0 : Int) < _; omega)
      | (show (0 : Int) < _; simp only [w64] at *; omega)
      | (simp only [w32, w64] at *; omega)
      | (first | omega | (simp (disch := omega) only [w32_id, w64_id]; omega) | (simp (disch := omega) only [w32_id, w64_id] at *; omega) | (simp only [w32, w64] at *; omega) | exact (and32_le (by omega) (by omega)).1 | exact (and32_le (by omega) (by omega)).2 | exact (mulR (by omega) (by omega) (by omega) (by omega)).1 | exact (mulR (by omega) (by omega) (by omega) (by omega)).2 | (subst_vars; simp [upZ] at *; omega) | (subst_vars; simp [upZ] at *; simp only [w32, w64] at *; omega))
      | skip
  · have loop : ∀ fuel : Nat, (∀ (Z1 : ZT) (v2 : Int), CI Z1 → keeps ([19, 19 + 1, 19 + 2, 19 + 3, 19 + 4, 19 + 5, 19 + 6, 19 + 7, 19 + 8, 19 + 9]) Z Z1 → ((0 ≤ v2 ∧ v2 ≤ 4) ∧ True) → 200 - v2 ≤ (fuel : Int) → G 18 [(0, vr 19), (1, vr 37), (2, vi v2)] [] (n, Z1, R0)) ∧ (∀ (Z1 : ZT) (v2 : Int), CI Z1 → keeps ([19, 19 + 1, 19 + 2, 19 + 3, 19 + 4, 19 + 5, 19 + 6, 19 + 7, 19 + 8, 19 + 9]) Z Z1 → ((0 ≤ v2 ∧ v2 ≤ 80) ∧ True) → 81 - v2 ≤ (fuel : Int) → G 103 [(0, vr 19), (1, vr 37), (2, vi v2)] [] (n, Z1, R0)) := by
      intro fuel
      induction fuel with
      | zero => exact ⟨(by intros; omega), (by intros; omega)⟩
      | succ fuel ih =>
        obtain ⟨ih18, ih103⟩ := ih
        refine ⟨?_, ?_⟩
        · intro Z1 v2 hI1 hk1 hv hm
          obtain ⟨w0, -⟩ := hv
          clear hk hI
          refine wq_run hG n R0 [18, 103] 900 _ _ _ _ ?_
          repeat' (first
              | with_reducible rfl
              | refine And.intro ?_ ?_
              | with_reducible exact True.intro
              | ((with_reducible show _ = true); rfl)
              | ((with_reducible show recvG _ _); rfl)
              | ((with_reducible show CI _); first | with_reducible assumption | assumption)
              | (fail_if_success (first | (with_reducible show _ ≤ _) | (with_reducible show _ = _) | (with_reducible show _ ∨ _) | (with_reducible show _ < _) | (with_reducible show G _ _ _ _))
                 first
                 | show G _ _ _ _
                 | (intro (Z2 : ZT) hZ2; have hZ3 : Z' = Z2 := hZ2.symm; subst hZ3)
                 | (intro (Z2 : ZT) hZ2; have hZ3 : Z1 = Z2 := hZ2.symm; subst hZ3)
                 | (intro (Z2 : ZT) hZ2; have hZ3 : Z = Z2 := hZ2.symm; subst hZ3)
                 | (refine ld_bnd (by first | with_reducible assumption | assumption) rfl ?_; intro _ _ _ _)
                 | (refine st_bnd (by first | with_reducible assumption | assumption) (by first | with_reducible assumption | assumption) (by decide) (fun lo hi hb => by first | (cases hb; done) | (cases hb; constructor <;> (first | omega | (simp (disch := omega) only [w32_id, w64_id]; omega) | (simp (disch := omega) only [w32_id, w64_id] at *; omega) | (simp only [w32, w64] at *; omega) | exact (and32_le (by omega) (by omega)).1 | exact (and32_le (by omega) (by omega)).2 | exact (mulR (by omega) (by omega) (by omega) (by omega)).1 | exact (mulR (by omega) (by omega) (by omega) (by omega)).2 | (subst_vars; simp [upZ] at *; omega) | (subst_vars; simp [upZ] at *; simp only [w32, w64] at *; omega)))) ?_; intro Z' _ _ _)
                 | (intro (r : Option PV) σ' hq
                    first
                    | (obtain ⟨rfl, rfl⟩ := hq)
                    | (obtain ⟨Z', x, rfl, rfl, hI2, hk2, hl2, hu2⟩ := hq; have hk3 := keeps_to (by first | with_reducible assumption | assumption) (by rfl) hk2; clear hk2)
                    | (obtain ⟨Z', x, rfl, rfl, hI2, hk2⟩ := hq; have hk3 := keeps_to (by first | with_reducible assumption | assumption) (by rfl) hk2; clear hk2)
                    | (rcases hq with ⟨Z', rfl, rfl, hI2, hk2⟩ | ⟨Z', rfl, rfl, hI2, hk2⟩ <;> (have hk3 := keeps_to (by first | with_reducible assumption | assumption) (by rfl) hk2; clear hk2))
                    | (obtain ⟨Z', rfl, rfl, hI2, hk2⟩ := hq; have hk3 := keeps_to (by first | with_reducible assumption | assumption) (by rfl) hk2; clear hk2))
                 | (intro hc; (try simp only [cmp3_c] at hc); simp only [cmpI] at hc)
                 | (show CI _; assumption)
                 | intro (_ : Int)
                 | intro (Z' : ZT)
                 | intro (_ : CI _)
                 | intro (_ : keeps _ _ _)
                 | intro (_ : _ ≤ _)
                 | intro (_ : _ = _)
                 | intro (_ : _ < _)
                 | intro (_ : _ ∨ _)))
          all_goals first
            | with_reducible rfl
            | ((with_reducible show _ = _); rfl)
            | ((with_reducible show recvG _ _); rfl)
            | with_reducible exact trivial
            | ((fail_if_success (first | (with_reducible show _ ≤ _) | (with_reducible show _ = _) | (with_reducible show _ ∨ _) | (with_reducible show _ < _) | (with_reducible show G _ _ _ _))); (refine Exists.intro _ (And.intro rfl (And.intro rfl (And.intro ?_ ?_)))) <;> with_reducible assumption)
            | ((with_reducible show G 18 _ _ _); exact hG.2 18 _ [(0, vr 19), (1, vr 37), (2, vi _)] _ _ rfl (ih18 _ _ (by assumption) (by assumption) (by refine ⟨by first | omega | (refine ⟨?_, ?_⟩ <;> (first | omega | (simp (disch := omega) only [w32_id, w64_id]; omega) | (simp (disch := omega) only [w32_id, w64_id] at *; omega) | (simp only [w32, w64] at *; omega) | exact (and32_le (by omega) (by omega)).1 | exact (and32_le (by omega) (by omega)).2 | exact (mulR (by omega) (by omega) (by omega) (by omega)).1 | exact (mulR (by omega) (by omega) (by omega) (by omega)).2 | (subst_vars; simp [upZ] at *; omega) | (subst_vars; simp [upZ] at *; simp only [w32, w64] at *; omega))) | (first | omega | (simp (disch := omega) only [w32_id, w64_id]; omega) | (simp (disch := omega) only [w32_id, w64_id] at *; omega) | (simp only [w32, w64] at *; omega) | exact (and32_le (by omega) (by omega)).1 | exact (and32_le (by omega) (by omega)).2 | exact (mulR (by omega) (by omega) (by omega) (by omega)).1 | exact (mulR (by omega) (by omega) (by omega) (by omega)).2 | (subst_vars; simp [upZ] at *; omega) | (subst_vars; simp [upZ] at *; simp only [w32, w64] at *; omega)), trivial⟩) (by first | omega | (simp (disch := omega) only [w32_id, w64_id]; omega) | (simp (disch := omega) only [w32_id, w64_id] at *; omega) | (simp only [w32, w64] at *; omega) | exact (and32_le (by omega) (by omega)).1 | exact (and32_le (by omega) (by omega)).2 | exact (mulR (by omega) (by omega) (by omega) (by omega)).1 | exact (mulR (by omega) (by omega) (by omega) (by omega)).2 | (subst_vars; simp [upZ] at *; omega) | (subst_vars; simp [upZ] at *; simp only [w32, w64] at *; omega))))
            | ((with_reducible show G 103 _ _ _); exact hG.2 103 _ [(0, vr 19), (1, vr 37), (2, vi _)] _ _ rfl (ih103 _ _ (by assumption) (by assumption) (by refine ⟨by first | omega | (refine ⟨?_, ?_⟩ <;> (first | omega | (simp (disch := omega) only [w32_id, w64_id]; omega) | (simp (disch := omega) only [w32_id, w64_id] at *; omega) | (simp only [w32, w64] at *; omega) | exact (and32_le (by omega) (by omega)).1 | exact (and32_le (by omega) (by omega)).2 | exact (mulR (by omega) (by omega) (by omega) (by omega)).1 | exact (mulR (by omega) (by omega) (by omega) (by omega)).2 | (subst_vars; simp [upZ] at *; omega) | (subst_vars; simp [upZ] at *; simp only [w32, w64] at *; omega))) | (first | omega | (simp (disch := omega) only [w32_id, w64_id]; omega) | (simp (disch := omega) only [w32_id, w64_id] at *; omega) | (simp only [w32, w64] at *; omega) | exact (and32_le (by omega) (by omega)).1 | exact (and32_le (by omega) (by omega)).2 | exact (mulR (by omega) (by omega) (by omega) (by omega)).1 | exact (mulR (by omega) (by omega) (by omega) (by omega)).2 | (subst_vars; simp [upZ] at *; omega) | (subst_vars; simp [upZ] at *; simp only [w32, w64] at *; omega)), trivial⟩) (by first | omega | (simp (disch := omega) only [w32_id, w64_id]; omega) | (simp (disch := omega) only [w32_id, w64_id] at *; omega) | (simp only [w32, w64] at *; omega) | exact (and32_le (by omega) (by omega)).1 | exact (and32_le (by omega) (by omega)).2 | exact (mulR (by omega) (by omega) (by omega) (by omega)).1 | exact (mulR (by omega) (by omega) (by omega) (by omega)).2 | (subst_vars; simp [upZ] at *; omega) | (subst_vars; simp [upZ] at *; simp only [w32, w64] at *; omega))))
            | ((fail_if_success (first | (with_reducible show _ ≤ _) | (with_reducible show _ = _) | (with_reducible show _ ∨ _) | (with_reducible show _ < _) | (with_reducible show G _ _ _ _))); exact Exists.intro _ (Exists.intro _ ⟨rfl, rfl, by assumption, by assumption, by (first | omega | (simp (disch := omega) only [w32_id, w64_id]; omega) | (simp (disch := omega) only [w32_id, w64_id] at *; omega) | (simp only [w32, w64] at *; omega) | exact (and32_le (by omega) (by omega)).1 | exact (and32_le (by omega) (by omega)).2 | exact (mulR (by omega) (by omega) (by omega) (by omega)).1 | exact (mulR (by omega) (by omega) (by omega) (by omega)).2 | (subst_vars; simp [upZ] at *; omega) | (subst_vars; simp [upZ] at *; simp only [w32, w64] at *; omega)), by (first | omega | (simp (disch := omega) only [w32_id, w64_id]; omega) | (simp (disch := omega) only [w32_id, w64_id] at *; omega) | (simp only [w32, w64] at *; omega) | exact (and32_le (by omega) (by omega)).1 | exact (and32_le (by omega) (by omega)).2 | exact (mulR (by omega) (by omega) (by omega) (by omega)).1 | exact (mulR (by omega) (by omega) (by omega) (by omega)).2 | (subst_vars; simp [upZ] at *; omega) | (subst_vars; simp [upZ] at *; simp only [w32, w64] at *; omega))⟩))
            | ((fail_if_success (first | (with_reducible show _ ≤ _) | (with_reducible show _ = _) | (with_reducible show _ ∨ _) | (with_reducible show _ < _) | (with_reducible show G _ _ _ _))); exact Exists.intro _ (Exists.intro _ ⟨rfl, rfl, by assumption, by assumption⟩))
            | ((fail_if_success (first | (with_reducible show _ ≤ _) | (with_reducible show _ = _) | (with_reducible show _ ∨ _) | (with_reducible show _ < _) | (with_reducible show G _ _ _ _))); exact Exists.intro _ ⟨rfl, rfl, by assumption, by assumption⟩)
            | ((fail_if_success (first | (with_reducible show _ ≤ _) | (with_reducible show _ = _) | (with_reducible show _ ∨ _) | (with_reducible show _ < _) | (with_reducible show G _ _ _ _))); exact Or.inl (Exists.intro _ ⟨rfl, rfl, by assumption, by assumption⟩))
            | ((fail_if_success (first | (with_reducible show _ ≤ _) | (with_reducible show _ = _) | (with_reducible show _ ∨ _) | (with_reducible show _ < _) | (with_reducible show G _ _ _ _))); exact Or.inr (Exists.intro _ ⟨rfl, rfl, by assumption, by assumption⟩))
            | omega
            | rfl
            | exact trivial
            | decide
            | (show (0 : Int) < _; omega)
            | (show (0 : Int) < _; simp only [w64] at *; omega)
            | (simp only [w32, w64] at *; omega)
            | (first | omega | (simp (disch := omega) only [w32_id, w64_id]; omega) | (simp (disch := omega) only [w32_id, w64_id] at *; omega) | (simp only [w32, w64] at *; omega) | exact (and32_le (by omega) (by omega)).1 | exact (and32_le (by omega) (by omega)).2 | exact (mulR (by omega) (by omega) (by omega) (by omega)).1 | exact (mulR (by omega) (by omega) (by omega) (by omega)).2 | (subst_vars; simp [upZ] at *; omega) | (subst_vars; simp [upZ] at *; simp only [w32, w64] at *; omega))
            | skip
        · intro Z1 v2 hI1 hk1 hv hm
          obtain ⟨w0, -⟩ := hv
          clear hk hI
          refine wq_run hG n R0 [18, 103] 900 _ _ _ _ ?_
          repeat' (first
              | with_reducible rfl
              | refine And.intro ?_ ?_
              | with_reducible exact True.intro
              | ((with_reducible show _ = true); rfl)
              | ((with_reducible show recvG _ _); rfl)
              | ((with_reducible show CI _); first | with_reducible assumption | assumption)
              | (fail_if_success (first | (with_reducible show _ ≤ _) | (with_reducible show _ = _) | (with_reducible show _ ∨ _) | (with_reducible show _ < _) | (with_reducible show G _ _ _ _))
                 first
                 | show G _ _ _ _
                 | (intro (Z2 : ZT) hZ2; have hZ3 : Z' = Z2 := hZ2.symm; subst hZ3)
                 | (intro (Z2 : ZT) hZ2; have hZ3 : Z1 = Z2 := hZ2.symm; subst hZ3)
                 | (intro (Z2 : ZT) hZ2; have hZ3 : Z = Z2 := hZ2.symm; subst hZ3)
                 | (refine ld_bnd (by first | with_reducible assumption | assumption) rfl ?_; intro _ _ _ _)
                 | (refine st_bnd (by first | with_reducible assumption | assumption) (by first | with_reducible assumption | assumption) (by decide) (fun lo hi hb => by first | (cases hb; done) | (cases hb; constructor <;> (first | omega | (simp (disch := omega) only [w32_id, w64_id]; omega) | (simp (disch := omega) only [w32_id, w64_id] at *; omega) | (simp only [w32, w64] at *; omega) | exact (and32_le (by omega) (by omega)).1 | exact (and32_le (by omega) (by omega)).2 | exact (mulR (by omega) (by omega) (by omega) (by omega)).1 | exact (mulR (by omega) (by omega) (by omega) (by omega)).2 | (subst_vars; simp [upZ] at *; omega) | (subst_vars; simp [upZ] at *; simp only [w32, w64] at *; omega)))) ?_; intro Z' _ _ _)
                 | (intro (r : Option PV) σ' hq
                    first
                    | (obtain ⟨rfl, rfl⟩ := hq)
                    | (obtain ⟨Z', x, rfl, rfl, hI2, hk2, hl2, hu2⟩ := hq; have hk3 := keeps_to (by first | with_reducible assumption | assumption) (by rfl) hk2; clear hk2)
                    | (obtain ⟨Z', x, rfl, rfl, hI2, hk2⟩ := hq; have hk3 := keeps_to (by first | with_reducible assumption | assumption) (by rfl) hk2; clear hk2)
                    | (rcases hq with ⟨Z', rfl, rfl, hI2, hk2⟩ | ⟨Z', rfl, rfl, hI2, hk2⟩ <;> (have hk3 := keeps_to (by first | with_reducible assumption | assumption) (by rfl) hk2; clear hk2))
                    | (obtain ⟨Z', rfl, rfl, hI2, hk2⟩ := hq; have hk3 := keeps_to (by first | with_reducible assumption | assumption) (by rfl) hk2; clear hk2))
                 | (intro hc; (try simp only [cmp3_c] at hc); simp only [cmpI] at hc)
                 | (show CI _; assumption)
                 | intro (_ : Int)
                 | intro (Z' : ZT)
                 | intro (_ : CI _)
                 | intro (_ : keeps _ _ _)
                 | intro (_ : _ ≤ _)
                 | intro (_ : _ = _)
                 | intro (_ : _ < _)
                 | intro (_ : _ ∨ _)))
          all_goals first
            | with_reducible rfl
            | ((with_reducible show _ = _); rfl)
            | ((with_reducible show recvG _ _); rfl)
            | with_reducible exact trivial
            | ((fail_if_success (first | (with_reducible show _ ≤ _) | (with_reducible show _ = _) | (with_reducible show _ ∨ _) | (with_reducible show _ < _) | (with_reducible show G _ _ _ _))); (refine Exists.intro _ (And.intro rfl (And.intro rfl (And.intro ?_ ?_)))) <;> with_reducible assumption)
            | ((with_reducible show G 18 _ _ _); exact hG.2 18 _ [(0, vr 19), (1, vr 37), (2, vi _)] _ _ rfl (ih18 _ _ (by assumption) (by assumption) (by refine ⟨by first | omega | (refine ⟨?_, ?_⟩ <;> (first | omega | (simp (disch := omega) only [w32_id, w64_id]; omega) | (simp (disch := omega) only [w32_id, w64_id] at *; omega) | (simp only [w32, w64] at *; omega) | exact (and32_le (by omega) (by omega)).1 | exact (and32_le (by omega) (by omega)).2 | exact (mulR (by omega) (by omega) (by omega) (by omega)).1 | exact (mulR (by omega) (by omega) (by omega) (by omega)).2 | (subst_vars; simp [upZ] at *; omega) | (subst_vars; simp [upZ] at *; simp only [w32, w64] at *; omega))) | (first | omega | (simp (disch := omega) only [w32_id, w64_id]; omega) | (simp (disch := omega) only [w32_id, w64_id] at *; omega) | (simp only [w32, w64] at *; omega) | exact (and32_le (by omega) (by omega)).1 | exact (and32_le (by omega) (by omega)).2 | exact (mulR (by omega) (by omega) (by omega) (by omega)).1 | exact (mulR (by omega) (by omega) (by omega) (by omega)).2 | (subst_vars; simp [upZ] at *; omega) | (subst_vars; simp [upZ] at *; simp only [w32, w64] at *; omega)), trivial⟩) (by first | omega | (simp (disch := omega) only [w32_id, w64_id]; omega) | (simp (disch := omega) only [w32_id, w64_id] at *; omega) | (simp only [w32, w64] at *; omega) | exact (and32_le (by omega) (by omega)).1 | exact (and32_le (by omega) (by omega)).2 | exact (mulR (by omega) (by omega) (by omega) (by omega)).1 | exact (mulR (by omega) (by omega) (by omega) (by omega)).2 | (subst_vars; simp [upZ] at *; omega) | (subst_vars; simp [upZ] at *; simp only [w32, w64] at *; omega))))
            | ((with_reducible show G 103 _ _ _); exact hG.2 103 _ [(0, vr 19), (1, vr 37), (2, vi _)] _ _ rfl (ih103 _ _ (by assumption) (by assumption) (by refine ⟨by first | omega | (refine ⟨?_, ?_⟩ <;> (first | omega | (simp (disch := omega) only [w32_id, w64_id]; omega) | (simp (disch := omega) only [w32_id, w64_id] at *; omega) | (simp only [w32, w64] at *; omega) | exact (and32_le (by omega) (by omega)).1 | exact (and32_le (by omega) (by omega)).2 | exact (mulR (by omega) (by omega) (by omega) (by omega)).1 | exact (mulR (by omega) (by omega) (by omega) (by omega)).2 | (subst_vars; simp [upZ] at *; omega) | (subst_vars; simp [upZ] at *; simp only [w32, w64] at *; omega))) | (first | omega | (simp (disch := omega) only [w32_id, w64_id]; omega) | (simp (disch := omega) only [w32_id, w64_id] at *; omega) | (simp only [w32, w64] at *; omega) | exact (and32_le (by omega) (by omega)).1 | exact (and32_le (by omega) (by omega)).2 | exact (mulR (by omega) (by omega) (by omega) (by omega)).1 | exact (mulR (by omega) (by omega) (by omega) (by omega)).2 | (subst_vars; simp [upZ] at *; omega) | (subst_vars; simp [upZ] at *; simp only [w32, w64] at *; omega)), trivial⟩) (by first | omega | (simp (disch := omega) only [w32_id, w64_id]; omega) | (simp (disch := omega) only [w32_id, w64_id] at *; omega) | (simp only [w32, w64] at *; omega) | exact (and32_le (by omega) (by omega)).1 | exact (and32_le (by omega) (by omega)).2 | exact (mulR (by omega) (by omega) (by omega) (by omega)).1 | exact (mulR (by omega) (by omega) (by omega) (by omega)).2 | (subst_vars; simp [upZ] at *; omega) | (subst_vars; simp [upZ] at *; simp only [w32, w64] at *; omega))))
            | ((fail_if_success (first | (with_reducible show _ ≤ _) | (with_reducible show _ = _) | (with_reducible show _ ∨ _) | (with_reducible show _ < _) | (with_reducible show G _ _ _ _))); exact Exists.intro _ (Exists.intro _ ⟨rfl, rfl, by assumption, by assumption, by (first | omega | (simp (disch := omega) only [w32_id, w64_id]; omega) | (simp (disch := omega) only [w32_id, w64_id] at *; omega) | (simp only [w32, w64] at *; omega) | exact (and32_le (by omega) (by omega)).1 | exact (and32_le (by omega) (by omega)).2 | exact (mulR (by omega) (by omega) (by omega) (by omega)).1 | exact (mulR (by omega) (by omega) (by omega) (by omega)).2 | (subst_vars; simp [upZ] at *; omega) | (subst_vars; simp [upZ] at *; simp only [w32, w64] at *; omega)), by (first | omega | (simp (disch := omega) only [w32_id, w64_id]; omega) | (simp (disch := omega) only [w32_id, w64_id] at *; omega) | (simp only [w32, w64] at *; omega) | exact (and32_le (by omega) (by omega)).1 | exact (and32_le (by omega) (by omega)).2 | exact (mulR (by omega) (by omega) (by omega) (by omega)).1 | exact (mulR (by omega) (by omega) (by omega) (by omega)).2 | (subst_vars; simp [upZ] at *; omega) | (subst_vars; simp [upZ] at *; simp only [w32, w64] at *; omega))⟩))
            | ((fail_if_success (first | (with_reducible show _ ≤ _) | (with_reducible show _ = _) | (with_reducible show _ ∨ _) | (with_reducible show _ < _) | (with_reducible show G _ _ _ _))); exact Exists.intro _ (Exists.intro _ ⟨rfl, rfl, by assumption, by assumption⟩))
            | ((fail_if_success (first | (with_reducible show _ ≤ _) | (with_reducible show _ = _) | (with_reducible show _ ∨ _) | (with_reducible show _ < _) | (with_reducible show G _ _ _ _))); exact Exists.intro _ ⟨rfl, rfl, by assumption, by assumption⟩)
            | ((fail_if_success (first | (with_reducible show _ ≤ _) | (with_reducible show _ = _) | (with_reducible show _ ∨ _) | (with_reducible show _ < _) | (with_reducible show G _ _ _ _))); exact Or.inl (Exists.intro _ ⟨rfl, rfl, by assumption, by assumption⟩))
            | ((fail_if_success (first | (with_reducible show _ ≤ _) | (with_reducible show _ = _) | (with_reducible show _ ∨ _) | (with_reducible show _ < _) | (with_reducible show G _ _ _ _))); exact Or.inr (Exists.intro _ ⟨rfl, rfl, by assumption, by assumption⟩))
            | omega
            | rfl
            | exact trivial
            | decide
            | (show (0 : Int) < _; omega)
            | (show (0 : Int) < _; simp only [w64] at *; omega)
            | (simp only [w32, w64] at *; omega)
            | (first | omega | (simp (disch := omega) only [w32_id, w64_id]; omega) | (simp (disch := omega) only [w32_id, w64_id] at *; omega) | (simp only [w32, w64] at *; omega) | exact (and32_le (by omega) (by omega)).1 | exact (and32_le (by omega) (by omega)).2 | exact (mulR (by omega) (by omega) (by omega) (by omega)).1 | exact (mulR (by omega) (by omega) (by omega) (by omega)).2 | (subst_vars; simp [upZ] at *; omega) | (subst_vars; simp [upZ] at *; simp only [w32, w64] at *; omega))
            | skip
    refine wq_run hG n R0 [18, 103] 900 _ _ _ _ ?_
    repeat' (first
        | with_reducible rfl
        | refine And.intro ?_ ?_
        | with_reducible exact True.intro
        | ((with_reducible show _ = true); rfl)
        | ((with_reducible show recvG _ _); rfl)
        | ((with_reducible show CI _); first | with_reducible assumption | assumption)
        | (fail_if_success (first | (with_reducible show _ ≤ _) | (with_reducible show _ = _) | (with_reducible show _ ∨ _) | (with_reducible show _ < _) | (with_reducible show G _ _ _ _))
           first
           | show G _ _ _ _
           | (intro (Z2 : ZT) hZ2; have hZ3 : Z' = Z2 := hZ2.symm; subst hZ3)
           | (intro (Z2 : ZT) hZ2; have hZ3 : Z1 = Z2 := hZ2.symm; subst hZ3)
           | (intro (Z2 : ZT) hZ2; have hZ3 : Z = Z2 := hZ2.symm; subst hZ3)
           | (refine ld_bnd (by first | with_reducible assumption | assumption) rfl ?_; intro _ _ _ _)
           | (refine st_bnd (by first | with_reducible assumption | assumption) (by first | with_reducible assumption | assumption) (by decide) (fun lo hi hb => by first | (cases hb; done) | (cases hb; constructor <;> (first | omega | (simp (disch := omega) only [w32_id, w64_id]; omega) | (simp (disch := omega) only [w32_id, w64_id] at *; omega) | (simp only [w32, w64] at *; omega) | exact (and32_le (by omega) (by omega)).1 | exact (and32_le (by omega) (by omega)).2 | exact (mulR (by omega) (by omega) (by omega) (by omega)).1 | exact (mulR (by omega) (by omega) (by omega) (by omega)).2 | (subst_vars; simp [upZ] at *; omega) | (subst_vars; simp [upZ] at *; simp only [w32, w64] at *; omega)))) ?_; intro Z' _ _ _)
           | (intro (r : Option PV) σ' hq
              first
              | (obtain ⟨rfl, rfl⟩ := hq)
              | (obtain ⟨Z', x, rfl, rfl, hI2, hk2, hl2, hu2⟩ := hq; have hk3 := keeps_to (by first | with_reducible assumption | assumption) (by rfl) hk2; clear hk2)
              | (obtain ⟨Z', x, rfl, rfl, hI2, hk2⟩ := hq; have hk3 := keeps_to (by first | with_reducible assumption | assumption) (by rfl) hk2; clear hk2)
              | (rcases hq with ⟨Z', rfl, rfl, hI2, hk2⟩ | ⟨Z', rfl, rfl, hI2, hk2⟩ <;> (have hk3 := keeps_to (by first | with_reducible assumption | assumption) (by rfl) hk2; clear hk2))
              | (obtain ⟨Z', rfl, rfl, hI2, hk2⟩ := hq; have hk3 := keeps_to (by first | with_reducible assumption | assumption) (by rfl) hk2; clear hk2))
           | (intro hc; (try simp only [cmp3_c] at hc); simp only [cmpI] at hc)
           | (show CI _; assumption)
           | intro (_ : Int)
           | intro (Z' : ZT)
           | intro (_ : CI _)
           | intro (_ : keeps _ _ _)
           | intro (_ : _ ≤ _)
           | intro (_ : _ = _)
           | intro (_ : _ < _)
           | intro (_ : _ ∨ _)))
    all_goals (try obtain ⟨lp18, lp103⟩ := loop 1000000)
    all_goals first
      | with_reducible rfl
      | ((with_reducible show _ = _); rfl)
      | ((with_reducible show recvG _ _); rfl)
      | with_reducible exact trivial
      | ((fail_if_success (first | (with_reducible show _ ≤ _) | (with_reducible show _ = _) | (with_reducible show _ ∨ _) | (with_reducible show _ < _) | (with_reducible show G _ _ _ _))); (refine Exists.intro _ (And.intro rfl (And.intro rfl (And.intro ?_ ?_)))) <;> with_reducible assumption)
      | ((with_reducible show G 18 _ _ _); exact hG.2 18 _ [(0, vr 19), (1, vr 37), (2, vi _)] _ _ rfl (lp18 _ _ (by assumption) (by assumption) (by refine ⟨by first | omega | (refine ⟨?_, ?_⟩ <;> (first | omega | (simp (disch := omega) only [w32_id, w64_id]; omega) | (simp (disch := omega) only [w32_id, w64_id] at *; omega) | (simp only [w32, w64] at *; omega) | exact (and32_le (by omega) (by omega)).1 | exact (and32_le (by omega) (by omega)).2 | exact (mulR (by omega) (by omega) (by omega) (by omega)).1 | exact (mulR (by omega) (by omega) (by omega) (by omega)).2 | (subst_vars; simp [upZ] at *; omega) | (subst_vars; simp [upZ] at *; simp only [w32, w64] at *; omega))) | (first | omega | (simp (disch := omega) only [w32_id, w64_id]; omega) | (simp (disch := omega) only [w32_id, w64_id] at *; omega) | (simp only [w32, w64] at *; omega) | exact (and32_le (by omega) (by omega)).1 | exact (and32_le (by omega) (by omega)).2 | exact (mulR (by omega) (by omega) (by omega) (by omega)).1 | exact (mulR (by omega) (by omega) (by omega) (by omega)).2 | (subst_vars; simp [upZ] at *; omega) | (subst_vars; simp [upZ] at *; simp only [w32, w64] at *; omega)), trivial⟩) (by first | omega | (simp (disch := omega) only [w32_id, w64_id]; omega) | (simp (disch := omega) only [w32_id, w64_id] at *; omega) | (simp only [w32, w64] at *; omega) | exact (and32_le (by omega) (by omega)).1 | exact (and32_le (by omega) (by omega)).2 | exact (mulR (by omega) (by omega) (by omega) (by omega)).1 | exact (mulR (by omega) (by omega) (by omega) (by omega)).2 | (subst_vars; simp [upZ] at *; omega) | (subst_vars; simp [upZ] at *; simp only [w32, w64] at *; omega))))
      | ((with_reducible show G 103 _ _ _); exact hG.2 103 _ [(0, vr 19), (1, vr 37), (2, vi _)] _ _ rfl (lp103 _ _ (by assumption) (by assumption) (by refine ⟨by first | omega | (refine ⟨?_, ?_⟩ <;> (first | omega | (simp (disch := omega) only [w32_id, w64_id]; omega) | (simp (disch := omega) only [w32_id, w64_id] at *; omega) | (simp only [w32, w64] at *; omega) | exact (and32_le (by omega) (by omega)).1 | exact (and32_le (by omega) (by omega)).2 | exact (mulR (by omega) (by omega) (by omega) (by omega)).1 | exact (mulR (by omega) (by omega) (by omega) (by omega)).2 | (subst_vars; simp [upZ] at *; omega) | (subst_vars; simp [upZ] at *; simp only [w32, w64] at *; omega))) | (first | omega | (simp (disch := omega) only [w32_id, w64_id]; omega) | (simp (disch := omega) only [w32_id, w64_id] at *; omega) | (simp only [w32, w64] at *; omega) | exact (and32_le (by omega) (by omega)).1 | exact (and32_le (by omega) (by omega)).2 | exact (mulR (by omega) (by omega) (by omega) (by omega)).1 | exact (mulR (by omega) (by omega) (by omega) (by omega)).2 | (subst_vars; simp [upZ] at *; omega) | (subst_vars; simp [upZ] at *; simp only [w32, w64] at *; omega)), trivial⟩) (by first | omega | (simp (disch := omega) only [w32_id, w64_id]; omega) | (simp (disch := omega) only [w32_id, w64_id] at *; omega) | (simp only [w32, w64] at *; omega) | exact (and32_le (by omega) (by omega)).1 | exact (and32_le (by omega) (by omega)).2 | exact (mulR (by omega) (by omega) (by omega) (by omega)).1 | exact (mulR (by omega) (by omega) (by omega) (by omega)).2 | (subst_vars; simp [upZ] at *; omega) | (subst_vars; simp [upZ] at *; simp only [w32, w64] at *; omega))))
      | ((fail_if_success (first | (with_reducible show _ ≤ _) | (with_reducible show _ = _) | (with_reducible show _ ∨ _) | (with_reducible show _ < _) | (with_reducible show G _ _ _ _))); exact Exists.intro _ (Exists.intro _ ⟨rfl, rfl, by assumption, by assumption, by (first | omega | (simp (disch := omega) only [w32_id, w64_id]; omega) | (simp (disch := omega) only [w32_id, w64_id] at *; omega) | (simp only [w32, w64] at *; omega) | exact (and32_le (by omega) (by omega)).1 | exact (and32_le (by omega) (by omega)).2 | exact (mulR (by omega) (by omega) (by omega) (by omega)).1 | exact (mulR (by omega) (by omega) (by omega) (by omega)).2 | (subst_vars; simp [upZ] at *; omega) | (subst_vars; simp [upZ] at *; simp only [w32, w64] at *; omega)), by (first | omega | (simp (disch := omega) only [w32_id, w64_id]; omega) | (simp (disch := omega) only [w32_id, w64_id] at *; omega) | (simp only [w32, w64] at *; omega) | exact (and32_le (by omega) (by omega)).1 | exact (and32_le (by omega) (by omega)).2 | exact (mulR (by omega) (by omega) (by omega) (by omega)).1 | exact (mulR (by omega) (by omega) (by omega) (by omega)).2 | (subst_vars; simp [upZ] at *; omega) | (subst_vars; simp [upZ] at *; simp only [w32, w64] at *; omega))⟩))
      | ((fail_if_success (first | (with_reducible show _ ≤ _) | (with_reducible show _ = _) | (with_reducible show _ ∨ _) | (with_reducible show _ < _) | (with_reducible show G _ _ _ _))); exact Exists.intro _ (Exists.intro _ ⟨rfl, rfl, by assumption, by assumption⟩))
      | ((fail_if_success (first | (with_reducible show _ ≤ _) | (with_reducible show _ = _) | (with_reducible show _ ∨ _) | (with_reducible show _ < _) | (with_reducible show G _ _ _ _))); exact Exists.intro _ ⟨rfl, rfl, by assumption, by assumption⟩)
      | ((fail_if_success (first | (with_reducible show _ ≤ _) | (with_reducible show _ = _) | (with_reducible show _ ∨ _) | (with_reducible show _ < _) | (with_reducible show G _ _ _ _))); exact Or.inl (Exists.intro _ ⟨rfl, rfl, by assumption, by assumption⟩))
      | ((fail_if_success (first | (with_reducible show _ ≤ _) | (with_reducible show _ = _) | (with_reducible show _ ∨ _) | (with_reducible show _ < _) | (with_reducible show G _ _ _ _))); exact Or.inr (Exists.intro _ ⟨rfl, rfl, by assumption, by assumption⟩))
      | omega
      | rfl
      | exact trivial
      | decide
      | (show (0 : Int) < _; omega)
      | (show (0 : Int) < _; simp only [w64] at *; omega)
      | (simp only [w32, w64] at *; omega)
      | (first | omega | (simp (disch := omega) only [w32_id, w64_id]; omega) | (simp (disch := omega) only [w32_id, w64_id] at *; omega) | (simp only [w32, w64] at *; omega) | exact (and32_le (by omega) (by omega)).1 | exact (and32_le (by omega) (by omega)).2 | exact (mulR (by omega) (by omega) (by omega) (by omega)).1 | exact (mulR (by omega) (by omega) (by omega) (by omega)).2 | (subst_vars; simp [upZ] at *; omega) | (subst_vars; simp [upZ] at *; simp only [w32, w64] at *; omega))
      | skip
  · have loop : ∀ fuel : Nat, (∀ (Z1 : ZT) (v2 : Int), CI Z1 → keeps ([19, 19 + 1, 19 + 2, 19 + 3, 19 + 4, 19 + 5, 19 + 6, 19 + 7, 19 + 8, 19 + 9]) Z Z1 → ((0 ≤ v2 ∧ v2 ≤ 4) ∧ True) → 200 - v2 ≤ (fuel : Int) → G 18 [(0, vr 19), (1, vr 54), (2, vi v2)] [] (n, Z1, R0)) ∧ (∀ (Z1 : ZT) (v2 : Int), CI Z1 → keeps ([19, 19 + 1, 19 + 2, 19 + 3, 19 + 4, 19 + 5, 19 + 6, 19 + 7, 19 + 8, 19 + 9]) Z Z1 → ((0 ≤ v2 ∧ v2 ≤ 80) ∧ True) → 81 - v2 ≤ (fuel : Int) → G 103 [(0, vr 19), (1, vr 54), (2, vi v2)] [] (n, Z1, R0)) := by
      intro fuel
      induction fuel with
      | zero => exact ⟨(by intros; omega), (by intros; omega)⟩
      | succ fuel ih =>
        obtain ⟨ih18, ih103⟩ := ih
        refine ⟨?_, ?_⟩
        · intro Z1 v2 hI1 hk1 hv hm
          obtain ⟨w0, -⟩ := hv
          clear hk hI
          refine wq_run hG n R0 [18, 103] 900 _ _ _ _ ?_
          repeat' (first
              | with_reducible rfl
              | refine And.intro ?_ ?_
              | with_reducible exact True.intro
              | ((with_reducible show _ = true); rfl)
              | ((with_reducible show recvG _ _); rfl)
              | ((with_reducible show CI _); first | with_reducible assumption | assumption)
              | (fail_if_success (first | (with_reducible show _ ≤ _) | (with_reducible show _ = _) | (with_reducible show _ ∨ _) | (with_reducible show _ < _) | (with_reducible show G _ _ _ _))
                 first
                 | show G _ _ _ _
                 | (intro (Z2 : ZT) hZ2; have hZ3 : Z' = Z2 := hZ2.symm; subst hZ3)
                 | (intro (Z2 : ZT) hZ2; have hZ3 : Z1 = Z2 := hZ2.symm; subst hZ3)
                 | (intro (Z2 : ZT) hZ2; have hZ3 : Z = Z2 := hZ2.symm; subst hZ3)
                 | (refine ld_bnd (by first | with_reducible assumption | assumption) rfl ?_; intro _ _ _ _)
                 | (refine st_bnd (by first | with_reducible assumption | assumption) (by first | with_reducible assumption | assumption) (by decide) (fun lo hi hb => by first | (cases hb; done) | (cases hb; constructor <;> (first | omega | (simp (disch := omega) only [w32_id, w64_id]; omega) | (simp (disch := omega) only [w32_id, w64_id] at *; omega) | (simp only [w32, w64] at *; omega) | exact (and32_le (by omega) (by omega)).1 | exact (and32_le (by omega) (by omega)).2 | exact (mulR (by omega) (by omega) (by omega) (by omega)).1 | exact (mulR (by omega) (by omega) (by omega) (by omega)).2 | (subst_vars; simp [upZ] at *; omega) | (subst_vars; simp [upZ] at *; simp only [w32, w64] at *; omega)))) ?_; intro Z' _ _ _)
                 | (intro (r : Option PV) σ' hq
                    first
                    | (obtain ⟨rfl, rfl⟩ := hq)
                    | (obtain ⟨Z', x, rfl, rfl, hI2, hk2, hl2, hu2⟩ := hq; have hk3 := keeps_to (by first | with_reducible assumption | assumption) (by rfl) hk2; clear hk2)
                    | (obtain ⟨Z', x, rfl, rfl, hI2, hk2⟩ := hq; have hk3 := keeps_to (by first | with_reducible assumption | assumption) (by rfl) hk2; clear hk2)
                    | (rcases hq with ⟨Z', rfl, rfl, hI2, hk2⟩ | ⟨Z', rfl, rfl, hI2, hk2⟩ <;> (have hk3 := keeps_to (by first | with_reducible assumption | assumption) (by rfl) hk2; clear hk2))
                    | (obtain ⟨Z', rfl, rfl, hI2, hk2⟩ := hq; have hk3 := keeps_to (by first | with_reducible assumption | assumption) (by rfl) hk2; clear hk2))
                 | (intro hc; (try simp only [cmp3_c] at hc); simp only [cmpI] at hc)
                 | (show CI _; assumption)
                 | intro (_ : Int)
                 | intro (Z' : ZT)
                 | intro (_ : CI _)
                 | intro (_ : keeps _ _ _)
                 | intro (_ : _ ≤ _)
                 | intro (_ : _ = _)
                 | intro (_ : _ < _)
                 | intro (_ : _ ∨ _)))
          all_goals first
            | with_reducible rfl
            | ((with_reducible show _ = _); rfl)
            | ((with_reducible show recvG _ _); rfl)
            | with_reducible exact trivial
            | ((fail_if_success (first | (with_reducible show _ ≤ _) | (with_reducible show _ = _) | (with_reducible show _ ∨ _) | (with_reducible show _ < _) | (with_reducible show G _ _ _ _))); (refine Exists.intro _ (And.intro rfl (And.intro rfl (And.intro ?_ ?_)))) <;> with_reducible assumption)
            | ((with_reducible show G 18 _ _ _); exact hG.2 18 _ [(0, vr 19), (1, vr 54), (2, vi _)] _ _ rfl (ih18 _ _ (by assumption) (by assumption) (by refine ⟨by first | omega | (refine ⟨?_, ?_⟩ <;> (first | omega | (simp (disch := omega) only [w32_id, w64_id]; omega) | (simp (disch := omega) only [w32_id, w64_id] at *; omega) | (simp only [w32, w64] at *; omega) | exact (and32_le (by omega) (by omega)).1 | exact (and32_le (by omega) (by omega)).2 | exact (mulR (by omega) (by omega) (by omega) (by omega)).1 | exact (mulR (by omega) (by omega) (by omega) (by omega)).2 | (subst_vars; simp [upZ] at *; omega) | (subst_vars; simp [upZ] at *; simp only [w32, w64] at *; omega))) | (first | omega | (simp (disch := omega) only [w32_id, w64_id]; omega) | (simp (disch := omega) only [w32_id, w64_id] at *; omega) | (simp only [w32, w64] at *; omega) | exact (and32_le (by omega) (by omega)).1 | exact (and32_le (by omega) (by omega)).2 | exact (mulR (by omega) (by omega) (by omega) (by omega)).1 | exact (mulR (by omega) (by omega) (by omega) (by omega)).2 | (subst_vars; simp [upZ] at *; omega) | (subst_vars; simp [upZ] at *; simp only [w32, w64] at *; omega)), trivial⟩) (by first | omega | (simp (disch := omega) only [w32_id, w64_id]; omega) | (simp (disch := omega) only [w32_id, w64_id] at *; omega) | (simp only [w32, w64] at *; omega) | exact (and32_le (by omega) (by omega)).1 | exact (and32_le (by omega) (by omega)).2 | exact (mulR (by omega) (by omega) (by omega) (by omega)).1 | exact (mulR (by omega) (by omega) (by omega) (by omega)).2 | (subst_vars; simp [upZ] at *; omega) | (subst_vars; simp [upZ] at *; simp only [w32, w64] at *; omega))))
            | ((with_reducible show G 103 _ _ _); exact hG.2 103 _ [(0, vr 19), (1, vr 54), (2, vi _)] _ _ rfl (ih103 _ _ (by assumption) (by assumption) (by refine ⟨by first | omega | (refine ⟨?_, ?_⟩ <;> (first | omega | (simp (disch := omega) only [w32_id, w64_id]; omega) | (simp (disch := omega) only [w32_id, w64_id] at *; omega) | (simp only [w32, w64] at *; omega) | exact (and32_le (by omega) (by omega)).1 | exact (and32_le (by omega) (by omega)).2 | exact (mulR (by omega) (by omega) (by omega) (by omega)).1 | exact (mulR (by omega) (by omega) (by omega) (by omega)).2 | (subst_vars; simp [upZ] at *; omega) | (subst_vars; simp [upZ] at *; simp only [w32, w64] at *; omega))) | (first | omega | (simp (disch := omega) only [w32_id, w64_id]; omega) | (simp (disch := omega) only [w32_id, w64_id] at *; omega) | (simp only [w32, w64] at *; omega) | exact (and32_le (by omega) (by omega)).1 | exact (and32_le (by omega) (by omega)).2 | exact (mulR (by omega) (by omega) (by omega) (by omega)).1 | exact (mulR (by omega) (by omega) (by omega) (by omega)).2 | (subst_vars; simp [upZ] at *; omega) | (subst_vars; simp [upZ] at *; simp only [w32, w64] at *; omega)), trivial⟩) (by first | omega | (simp (disch := omega) only [w32_id, w64_id]; omega) | (simp (disch := omega) only [w32_id, w64_id] at *; omega) | (simp only [w32, w64] at *; omega) | exact (and32_le (by omega) (by omega)).1 | exact (and32_le (by omega) (by omega)).2 | exact (mulR (by omega) (by omega) (by omega) (by omega)).1 | exact (mulR (by omega) (by omega) (by omega) (by omega)).2 | (subst_vars; simp [upZ] at *; omega) | (subst_vars; simp [upZ] at *; simp only [w32, w64] at *; omega))))
            | ((fail_if_success (first | (with_reducible show _ ≤ _) | (with_reducible show _ = _) | (with_reducible show _ ∨ _) | (with_reducible show _ < _) | (with_reducible show G _ _ _ _))); exact Exists.intro _ (Exists.intro _ ⟨rfl, rfl, by assumption, by assumption, by (first | omega | (simp (disch := omega) only [w32_id, w64_id]; omega) | (simp (disch := omega) only [w32_id, w64_id] at *; omega) | (simp only [w32, w64] at *; omega) | exact (and32_le (by omega) (by omega)).1 | exact (and32_le (by omega) (by omega)).2 | exact (mulR (by omega) (by omega) (by omega) (by omega)).1 | exact (mulR (by omega) (by omega) (by omega) (by omega)).2 | (subst_vars; simp [upZ] at *; omega) | (subst_vars; simp [upZ] at *; simp only [w32, w64] at *; omega)), by (first | omega | (simp (disch := omega) only [w32_id, w64_id]; omega) | (simp (disch := omega) only [w32_id, w64_id] at *; omega) | (simp only [w32, w64] at *; omega) | exact (and32_le (by omega) (by omega)).1 | exact (and32_le (by omega) (by omega)).2 | exact (mulR (by omega) (by omega) (by omega) (by omega)).1 | exact (mulR (by omega) (by omega) (by omega) (by omega)).2 | (subst_vars; simp [upZ] at *; omega) | (subst_vars; simp [upZ] at *; simp only [w32, w64] at *; omega))⟩))
            | ((fail_if_success (first | (with_reducible show _ ≤ _) | (with_reducible show _ = _) | (with_reducible show _ ∨ _) | (with_reducible show _ < _) | (with_reducible show G _ _ _ _))); exact Exists.intro _ (Exists.intro _ ⟨rfl, rfl, by assumption, by assumption⟩))
            | ((fail_if_success (first | (with_reducible show _ ≤ _) | (with_reducible show _ = _) | (with_reducible show _ ∨ _) | (with_reducible show _ < _) | (with_reducible show G _ _ _ _))); exact Exists.intro _ ⟨rfl, rfl, by assumption, by assumption⟩)
            | ((fail_if_success (first | (with_reducible show _ ≤ _) | (with_reducible show _ = _) | (with_reducible show _ ∨ _) | (with_reducible show _ < _) | (with_reducible show G _ _ _ _))); exact Or.inl (Exists.intro _ ⟨rfl, rfl, by assumption, by assumption⟩))
            | ((fail_if_success (first | (with_reducible show _ ≤ _) | (with_reducible show _ = _) | (with_reducible show _ ∨ _) | (with_reducible show _ < _) | (with_reducible show G _ _ _ _))); exact Or.inr (Exists.intro _ ⟨rfl, rfl, by assumption, by assumption⟩))
            | omega
            | rfl
            | exact trivial
            | decide
            | (show (0 : Int) < _; omega)
            | (show (0 : Int) < _; simp only [w64] at *; omega)
            | (simp only [w32, w64] at *; omega)
            | (first | omega | (simp (disch := omega) only [w32_id, w64_id]; omega) | (simp (disch := omega) only [w32_id, w64_id] at *; omega) | (simp only [w32, w64] at *; omega) | exact (and32_le (by omega) (by omega)).1 | exact (and32_le (by omega) (by omega)).2 | exact (mulR (by omega) (by omega) (by omega) (by omega)).1 | exact (mulR (by omega) (by omega) (by omega) (by omega)).2 | (subst_vars; simp [upZ] at *; omega) | (subst_vars; simp [upZ] at *; simp only [w32, w64] at *; omega))
            | skip
        · intro Z1 v2 hI1 hk1 hv hm
          obtain ⟨w0, -⟩ := hv
          clear hk hI
          refine wq_run hG n R0 [18, 103] 900 _ _ _ _ ?_
          repeat' (first
              | with_reducible rfl
              | refine And.intro ?_ ?_
              | with_reducible exact True.intro
              | ((with_reducible show _ = true); rfl)
              | ((with_reducible show recvG _ _); rfl)
              | ((with_reducible show CI _); first | with_reducible assumption | assumption)
              | (fail_if_success (first | (with_reducible show _ ≤ _) | (with_reducible show _ = _) | (with_reducible show _ ∨ _) | (with_reducible show _ < _) | (with_reducible show G _ _ _ _))
                 first
                 | show G _ _ _ _
                 | (intro (Z2 : ZT) hZ2; have hZ3 : Z' = Z2 := hZ2.symm; subst hZ3)
                 | (intro (Z2 : ZT) hZ2; have hZ3 : Z1 = Z2 := hZ2.symm; subst hZ3)
                 | (intro (Z2 : ZT) hZ2; have hZ3 : Z = Z2 := hZ2.symm; subst hZ3)
                 | (refine ld_bnd (by first | with_reducible assumption | assumption) rfl ?_; intro _ _ _ _)
                 | (refine st_bnd (by first | with_reducible assumption | assumption) (by first | with_reducible assumption | assumption) (by decide) (fun lo hi hb => by first | (cases hb; done) | (cases hb; constructor <;> (first | omega | (simp (disch := omega) only [w32_id, w64_id]; omega) | (simp (disch := omega) only [w32_id, w64_id] at *; omega) | (simp only [w32, w64] at *; omega) | exact (and32_le (by omega) (by omega)).1 | exact (and32_le (by omega) (by omega)).2 | exact (mulR (by omega) (by omega) (by omega) (by omega)).1 | exact (mulR (by omega) (by omega) (by omega) (by omega)).2 | (subst_vars; simp [upZ] at *; omega) | (subst_vars; simp [upZ] at *; simp only [w32, w64] at *; omega)))) ?_; intro Z' _ _ _)
                 | (intro (r : Option PV) σ' hq
                    first
                    | (obtain ⟨rfl, rfl⟩ := hq)
                    | (obtain ⟨Z', x, rfl, rfl, hI2, hk2, hl2, hu2⟩ := hq; have hk3 := keeps_to (by first | with_reducible assumption | assumption) (by rfl) hk2; clear hk2)
                    | (obtain ⟨Z', x, rfl, rfl, hI2, hk2⟩ := hq; have hk3 := keeps_to (by first | with_reducible assumption | assumption) (by rfl) hk2; clear hk2)
                    | (rcases hq with ⟨Z', rfl, rfl, hI2, hk2⟩ | ⟨Z', rfl, rfl, hI2, hk2⟩ <;> (have hk3 := keeps_to (by first | with_reducible assumption | assumption) (by rfl) hk2; clear hk2))
                    | (obtain ⟨Z', rfl, rfl, hI2, hk2⟩ := hq; have hk3 := keeps_to (by first | with_reducible assumption | assumption) (by rfl) hk2; clear hk2))
                 | (intro hc; (try simp only [cmp3_c] at hc); simp only [cmpI] at hc)
                 | (show CI _; assumption)
                 | intro (_ : Int)
                 | intro (Z' : ZT)
                 | intro (_ : CI _)
                 | intro (_ : keeps _ _ _)
                 | intro (_ : _ ≤ _)
                 | intro (_ : _ = _)
                 | intro (_ : _ < _)
                 | intro (_ : _ ∨ _)))
          all_goals first
            | with_reducible rfl
            | ((with_reducible show _ = _); rfl)
            | ((with_reducible show recvG _ _); rfl)
            | with_reducible exact trivial
            | ((fail_if_success (first | (with_reducible show _ ≤ _) | (with_reducible show _ = _) | (with_reducible show _ ∨ _) | (with_reducible show _ < _) | (with_reducible show G _ _ _ _))); (refine Exists.intro _ (And.intro rfl (And.intro rfl (And.intro ?_ ?_)))) <;> with_reducible assumption)
            | ((with_reducible show G 18 _ _ _); exact hG.2 18 _ [(0, vr 19), (1, vr 54), (2, vi _)] _ _ rfl (ih18 _ _ (by assumption) (by assumption) (by refine ⟨by first | omega | (refine ⟨?_, ?_⟩ <;> (first | omega | (simp (disch := omega) only [w32_id, w64_id]; omega) | (simp (disch := omega) only [w32_id, w64_id] at *; omega) | (simp only [w32, w64] at *; omega) | exact (and32_le (by omega) (by omega)).1 | exact (and32_le (by omega) (by omega)).2 | exact (mulR (by omega) (by omega) (by omega) (by omega)).1 | exact (mulR (by omega) (by omega) (by omega) (by omega)).2 | (subst_vars; simp [upZ] at *; omega) | (subst_vars; simp [upZ] at *; simp only [w32, w64] at *; omega))) | (first | omega | (simp (disch := omega) only [w32_id, w64_id]; omega) | (simp (disch := omega) only [w32_id, w64_id] at *; omega) | (simp only [w32, w64] at *; omega) | exact (and32_le (by omega) (by omega)).1 | exact (and32_le (by omega) (by omega)).2 | exact (mulR (by omega) (by omega) (by omega) (by omega)).1 | exact (mulR (by omega) (by omega) (by omega) (by omega)).2 | (subst_vars; simp [upZ] at *; omega) | (subst_vars; simp [upZ] at *; simp only [w32, w64] at *; omega)), trivial⟩) (by first | omega | (simp (disch := omega) only [w32_id, w64_id]; omega) | (simp (disch := omega) only [w32_id, w64_id] at *; omega) | (simp only [w32, w64] at *; omega) | exact (and32_le (by omega) (by omega)).1 | exact (and32_le (by omega) (by omega)).2 | exact (mulR (by omega) (by omega) (by omega) (by omega)).1 | exact (mulR (by omega) (by omega) (by omega) (by omega)).2 | (subst_vars; simp [upZ] at *; omega) | (subst_vars; simp [upZ] at *; simp only [w32, w64] at *; omega))))
            | ((with_reducible show G 103 _ _ _); exact hG.2 103 _ [(0, vr 19), (1, vr 54), (2, vi _)] _ _ rfl (ih103 _ _ (by assumption) (by assumption) (by refine ⟨by first | omega | (refine ⟨?_, ?_⟩ <;> (first | omega | (simp (disch := omega) only [w32_id, w64_id]; omega) | (simp (disch := omega) only [w32_id, w64_id] at *; omega) | (simp only [w32, w64] at *; omega) | exact (and32_le (by omega) (by omega)).1 | exact (and32_le (by omega) (by omega)).2 | exact (mulR (by omega) (by omega) (by omega) (by omega)).1 | exact (mulR (by omega) (by omega) (by omega) (by omega)).2 | (subst_vars; simp [upZ] at *; omega) | (subst_vars; simp [upZ] at *; simp only [w32, w64] at *; omega))) | (first | omega | (simp (disch := omega) only [w32_id, w64_id]; omega) | (simp (disch := omega) only [w32_id, w64_id] at *; omega) | (simp only [w32, w64] at *; omega) | exact (and32_le (by omega) (by omega)).1 | exact (and32_le (by omega) (by omega)).2 | exact (mulR (by omega) (by omega) (by omega) (by omega)).1 | exact (mulR (by omega) (by omega) (by omega) (by omega)).2 | (subst_vars; simp [upZ] at *; omega) | (subst_vars; simp [upZ] at *; simp only [w32, w64] at *; omega)), trivial⟩) (by first | omega | (simp (disch := omega) only [w32_id, w64_id]; omega) | (simp (disch := omega) only [w32_id, w64_id] at *; omega) | (simp only [w32, w64] at *; omega) | exact (and32_le (by omega) (by omega)).1 | exact (and32_le (by omega) (by omega)).2 | exact (mulR (by omega) (by omega) (by omega) (by omega)).1 | exact (mulR (by omega) (by omega) (by omega) (by omega)).2 | (subst_vars; simp [upZ] at *; omega) | (subst_vars; simp [upZ] at *; simp only [w32, w64] at *; omega))))
            | ((fail_if_success (first | (with_reducible show _ ≤ _) | (with_reducible show _ = _) | (with_reducible show _ ∨ _) | (with_reducible show _ < _) | (with_reducible show G _ _ _ _))); exact Exists.intro _ (Exists.intro _ ⟨rfl, rfl, by assumption, by assumption, by (first | omega | (simp (disch := omega) only [w32_id, w64_id]; omega) | (simp (disch := omega) only [w32_id, w64_id] at *; omega) | (simp only [w32, w64] at *; omega) | exact (and32_le (by omega) (by omega)).1 | exact (and32_le (by omega) (by omega)).2 | exact (mulR (by omega) (by omega) (by omega) (by omega)).1 | exact (mulR (by omega) (by omega) (by omega) (by omega)).2 | (subst_vars; simp [upZ] at *; omega) | (subst_vars; simp [upZ] at *; simp only [w32, w64] at *; omega)), by (first | omega | (simp (disch := omega) only [w32_id, w64_id]; omega) | (simp (disch := omega) only [w32_id, w64_id] at *; omega) | (simp only [w32, w64] at *; omega) | exact (and32_le (by omega) (by omega)).1 | exact (and32_le (by omega) (by omega)).2 | exact (mulR (by omega) (by omega) (by omega) (by omega)).1 | exact (mulR (by omega) (by omega) (by omega) (by omega)).2 | (subst_vars; simp [upZ] at *; omega) | (subst_vars; simp [upZ] at *; simp only [w32, w64] at *; omega))⟩))
            | ((fail_if_success (first | (with_reducible show _ ≤ _) | (with_reducible show _ = _) | (with_reducible show _ ∨ _) | (with_reducible show _ < _) | (with_reducible show G _ _ _ _))); exact Exists.intro _ (Exists.intro _ ⟨rfl, rfl, by assumption, by assumption⟩))
            | ((fail_if_success (first | (with_reducible show _ ≤ _) | (with_reducible show _ = _) | (with_reducible show _ ∨ _) | (with_reducible show _ < _) | (with_reducible show G _ _ _ _))); exact Exists.intro _ ⟨rfl, rfl, by assumption, by assumption⟩)
            | ((fail_if_success (first | (with_reducible show _ ≤ _) | (with_reducible show _ = _) | (with_reducible show _ ∨ _) | (with_reducible show _ < _) | (with_reducible show G _ _ _ _))); exact Or.inl (Exists.intro _ ⟨rfl, rfl, by assumption, by assumption⟩))
            | ((fail_if_success (first | (with_reducible show _ ≤ _) | (with_reducible show _ = _) | (with_reducible show _ ∨ _) | (with_reducible show _ < _) | (with_reducible show G _ _ _ _))); exact Or.inr (Exists.intro _ ⟨rfl, rfl, by assumption, by assumption⟩))
            | omega
            | rfl
            | exact trivial
            | decide
            | (show (0 : Int) < _; omega)
            | (show (0 : Int) < _; simp only [w64] at *; omega)
            | (simp only [w32, w64] at *; omega)
            | (first | omega | (simp (disch := omega) only [w32_id, w64_id]; omega) | (simp (disch := omega) only [w32_id, w64_id] at *; omega) | (simp only [w32, w64] at *; omega) | exact (and32_le (by omega) (by omega)).1 | exact (and32_le (by omega) (by omega)).2 | exact (mulR (by omega) (by omega) (by omega) (by omega)).1 | exact (mulR (by omega) (by omega) (by omega) (by omega)).2 | (subst_vars; simp [upZ] at *; omega) | (subst_vars; simp [upZ] at *; simp only [w32, w64] at *; omega))
            | skip
    refine wq_run hG n R0 [18, 103] 900 _ _ _ _ ?_
    repeat' (first
        | with_reducible rfl
        | refine And.intro ?_ ?_
        | with_reducible exact True.intro
        | ((with_reducible show _ = true); rfl)
        | ((with_reducible show recvG _ _); rfl)
        | ((with_reducible show CI _); first | with_reducible assumption | assumption)
        | (fail_if_success (first | (with_reducible show _ ≤ _) | (with_reducible show _ = _) | (with_reducible show _ ∨ _) | (with_reducible show _ < _) | (with_reducible show G _ _ _ _))
           first
           | show G _ _ _ _
           | (intro (Z2 : ZT) hZ2; have hZ3 : Z' = Z2 := hZ2.symm; subst hZ3)
           | (intro (Z2 : ZT) hZ2; have hZ3 : Z1 = Z2 := hZ2.symm; subst hZ3)
           | (intro (Z2 : ZT) hZ2; have hZ3 : Z = Z2 := hZ2.symm; subst hZ3)
           | (refine ld_bnd (by first | with_reducible assumption | assumption) rfl ?_; intro _ _ _ _)
           | (refine st_bnd (by first | with_reducible assumption | assumption) (by first | with_reducible assumption | assumption) (by decide) (fun lo hi hb => by first | (cases hb; done) | (cases hb; constructor <;> (first | omega | (simp (disch := omega) only [w32_id, w64_id]; omega) | (simp (disch := omega) only [w32_id, w64_id] at *; omega) | (simp only [w32, w64] at *; omega) | exact (and32_le (by omega) (by omega)).1 | exact (and32_le (by omega) (by omega)).2 | exact (mulR (by omega) (by omega) (by omega) (by omega)).1 | exact (mulR (by omega) (by omega) (by omega) (by omega)).2 | (subst_vars; simp [upZ] at *; omega) | (subst_vars; simp [upZ] at *; simp only [w32, w64] at *; omega)))) ?_; intro Z' _ _ _)
           | (intro (r : Option PV) σ' hq
              first
              | (obtain ⟨rfl, rfl⟩ := hq)
              | (obtain ⟨Z', x, rfl, rfl, hI2, hk2, hl2, hu2⟩ := hq; have hk3 := keeps_to (by first | with_reducible assumption | assumption) (by rfl) hk2; clear hk2)
              | (obtain ⟨Z', x, rfl, rfl, hI2, hk2⟩ := hq; have hk3 := keeps_to (by first | with_reducible assumption | assumption) (by rfl) hk2; clear hk2)
              | (rcases hq with ⟨Z', rfl, rfl, hI2, hk2⟩ | ⟨Z', rfl, rfl, hI2, hk2⟩ <;> (have hk3 := keeps_to (by first | with_reducible assumption | assumption) (by rfl) hk2; clear hk2))
              | (obtain ⟨Z', rfl, rfl, hI2, hk2⟩ := hq; have hk3 := keeps_to (by first | with_reducible assumption | assumption) (by rfl) hk2; clear hk2))
           | (intro hc; (try simp only [cmp3_c] at hc); simp only [cmpI] at hc)
           | (show CI _; assumption)
           | intro (_ : Int)
           | intro (Z' : ZT)
           | intro (_ : CI _)
           | intro (_ : keeps _ _ _)
           | intro (_ : _ ≤ _)
           | intro (_ : _ = _)
           | intro (_ : _ < _)
           | intro (_ : _ ∨ _)))
    all_goals (try obtain ⟨lp18, lp103⟩ := loop 1000000)
    all_goals first
      | with_reducible rfl
      | ((with_reducible show _ = _); rfl)
      | ((with_reducible show recvG _ _); rfl)
      | with_reducible exact trivial
      | ((fail_if_success (first | (with_reducible show _ ≤ _) | (with_reducible show _ = _) | (with_reducible show _ ∨ _) | (with_reducible show _ < _) | (with_reducible show G _ _ _ _))); (refine Exists.intro _ (And.intro rfl (And.intro rfl (And.intro ?_ ?_)))) <;> with_reducible assumption)
      | ((with_reducible show G 18 _ _ _); exact hG.2 18 _ [(0, vr 19), (1, vr 54), (2, vi _)] _ _ rfl (lp18 _ _ (by assumption) (by assumption) (by refine ⟨by first | omega | (refine ⟨?_, ?_⟩ <;> (first | omega | (simp (disch := omega) only [w32_id, w64_id]; omega) | (simp (disch := omega) only [w32_id, w64_id] at *; omega) | (simp only [w32, w64] at *; omega) | exact (and32_le (by omega) (by omega)).1 | exact (and32_le (by omega) (by omega)).2 | exact (mulR (by omega) (by omega) (by omega) (by omega)).1 | exact (mulR (by omega) (by omega) (by omega) (by omega)).2 | (subst_vars; simp [upZ] at *; omega) | (subst_vars; simp [upZ] at *; simp only [w32, w64] at *; omega))) | (first | omega | (simp (disch := omega) only [w32_id, w64_id]; omega) | (simp (disch := omega) only [w32_id, w64_id] at *; omega) | (simp only [w32, w64] at *; omega) | exact (and32_le (by omega) (by omega)).1 | exact (and32_le (by omega) (by omega)).2 | exact (mulR (by omega) (by omega) (by omega) (by omega)).1 | exact (mulR (by omega) (by omega) (by omega) (by omega)).2 | (subst_vars; simp [upZ] at *; omega) | (subst_vars; simp [upZ] at *; simp only [w32, w64] at *; omega)), trivial⟩) (by first | omega | (simp (disch := omega) only [w32_id, w64_id]; omega) | (simp (disch := omega) only [w32_id, w64_id] at *; omega) | (simp only [w32, w64] at *; omega) | exact (and32_le (by omega) (by omega)).1 | exact (and32_le (by omega) (by omega)).2 | exact (mulR (by omega) (by omega) (by omega) (by omega)).1 | exact (mulR (by omega) (by omega) (by omega) (by omega)).2 | (subst_vars; simp [upZ] at *; omega) | (subst_vars; simp [upZ] at *; simp only [w32, w64] at *; omega))))
      | ((with_reducible show G 103 _ _ _); exact hG.2 103 _ [(0, vr 19), (1, vr 54), (2, vi _)] _ _ rfl (lp103 _ _ (by assumption) (by assumption) (by refine ⟨by first | omega | (refine ⟨?_, ?_⟩ <;> (first | omega | (simp (disch := omega) only [w32_id, w64_id]; omega) | (simp (disch := omega) only [w32_id, w64_id] at *; omega) | (simp only [w32, w64] at *; omega) | exact (and32_le (by omega) (by omega)).1 | exact (and32_le (by omega) (by omega)).2 | exact (mulR (by omega) (by omega) (by omega) (by omega)).1 | exact (mulR (by omega) (by omega) (by omega) (by omega)).2 | (subst_vars; simp [upZ] at *; omega) | (subst_vars; simp [upZ] at *; simp only [w32, w64] at *; omega))) | (first | omega | (simp (disch := omega) only [w32_id, w64_id]; omega) | (simp (disch := omega) only [w32_id, w64_id] at *; omega) | (simp only [w32, w64] at *; omega) | exact (and32_le (by omega) (by omega)).1 | exact (and32_le (by omega) (by omega)).2 | exact (mulR (by omega) (by omega) (by omega) (by omega)).1 | exact (mulR (by omega) (by omega) (by omega) (by omega)).2 | (subst_vars; simp [upZ] at *; omega) | (subst_vars; simp [upZ] at *; simp only [w32, w64] at *; omega)), trivial⟩) (by first | omega | (simp (disch := omega) only [w32_id, w64_id]; omega) | (simp (disch := omega) only [w32_id, w64_id] at *; omega) | (simp only [w32, w64] at *; omega) | exact (and32_le (by omega) (by omega)).1 | exact (and32_le (by omega) (by omega)).2 | exact (mulR (by omega) (by omega) (by omega) (by omega)).1 | exact (mulR (by omega) (by omega) (by omega) (by omega)).2 | (subst_vars; simp [upZ] at *; omega) | (subst_vars; simp [upZ] at *; simp only [w32, w64] at *; omega))))
      | ((fail_if_success (first | (with_reducible show _ ≤ _) | (with_reducible show _ = _) | (with_reducible show _ ∨ _) | (with_reducible show _ < _) | (with_reducible show G _ _ _ _))); exact Exists.intro _ (Exists.intro _ ⟨rfl, rfl, by assumption, by assumption, by (first | omega | (simp (disch := omega) only [w32_id, w64_id]; omega) | (simp (disch := omega) only [w32_id, w64_id] at *; omega) | (simp only [w32, w64] at *; omega) | exact (and32_le (by omega) (by omega)).1 | exact (and32_le (by omega) (by omega)).2 | exact (mulR (by omega) (by omega) (by omega) (by omega)).1 | exact (mulR (by omega) (by omega) (by omega) (by omega)).2 | (subst_vars; simp [upZ] at *; omega) | (subst_vars; simp [upZ] at *; simp only [w32, w64] at *; omega)), by (first | omega | (simp (disch := omega) only [w32_id, w64_id]; omega) | (simp (disch := omega) only [w32_id, w64_id] at *; omega) | (simp only [w32, w64] at *; omega) | exact (and32_le (by omega) (by omega)).1 | exact (and32_le (by omega) (by omega)).2 | exact (mulR (by omega) (by omega) (by omega) (by omega)).1 | exact (mulR (by omega) (by omega) (by omega) (by omega)).2 | (subst_vars; simp [upZ] at *; omega) | (subst_vars; simp [upZ] at *; simp only [w32, w64] at *; omega))⟩))
      | ((fail_if_success (first | (with_reducible show _ ≤ _) | (with_reducible show _ = _) | (with_reducible show _ ∨ _) | (with_reducible show _ < _) | (with_reducible show G _ _ _ _))); exact Exists.intro _ (Exists.intro _ ⟨rfl, rfl, by assumption, by assumption⟩))
      | ((fail_if_success (first | (with_reducible show _ ≤ _) | (with_reducible show _ = _) | (with_reducible show _ ∨ _) | (with_reducible show _ < _) | (with_reducible show G _ _ _ _))); exact Exists.intro _ ⟨rfl, rfl, by assumption, by assumption⟩)
      | ((fail_if_success (first | (with_reducible show _ ≤ _) | (with_reducible show _ = _) | (with_reducible show _ ∨ _) | (with_reducible show _ < _) | (with_reducible show G _ _ _ _))); exact Or.inl (Exists.intro _ ⟨rfl, rfl, by assumption, by assumption⟩))
      | ((fail_if_success (first | (with_reducible show _ ≤ _) | (with_reducible show _ = _) | (with_reducible show _ ∨ _) | (with_reducible show _ < _) | (with_reducible show G _ _ _ _))); exact Or.inr (Exists.intro _ ⟨rfl, rfl, by assumption, by assumption⟩))
      | omega
      | rfl
      | exact trivial
      | decide
      | (show (0 : Int) < _; omega)
      | (show (0 : Int) < _; simp only [w64] at *; omega)
      | (simp only [w32, w64] at *; omega)
      | (first | omega | (simp (disch := omega) only [w32_id, w64_id]; omega) | (simp (disch := omega) only [w32_id, w64_id] at *; omega) | (simp only [w32, w64] at *; omega) | exact (and32_le (by omega) (by omega)).1 | exact (and32_le (by omega) (by omega)).2 | exact (mulR (by omega) (by omega) (by omega) (by omega)).1 | exact (mulR (by omega) (by omega) (by omega) (by omega)).2 | (subst_vars; simp [upZ] at *; omega) | (subst_vars; simp [upZ] at *; simp only [w32, w64] at *; omega))
      | skip
  · have loop : ∀ fuel : Nat, (∀ (Z1 : ZT) (v2 : Int), CI Z1 → keeps ([37, 37 + 1, 37 + 2, 37 + 3, 37 + 4, 37 + 5, 37 + 6, 37 + 7, 37 + 8, 37 + 9]) Z Z1 → ((0 ≤ v2 ∧ v2 ≤ 4) ∧ True) → 200 - v2 ≤ (fuel : Int) → G 18 [(0, vr 37), (1, vr 19), (2, vi v2)] [] (n, Z1, R0)) ∧ (∀ (Z1 : ZT) (v2 : Int), CI Z1 → keeps ([37, 37 + 1, 37 + 2, 37 + 3, 37 + 4, 37 + 5, 37 + 6, 37 + 7, 37 + 8, 37 + 9]) Z Z1 → ((0 ≤ v2 ∧ v2 ≤ 80) ∧ True) → 81 - v2 ≤ (fuel : Int) → G 103 [(0, vr 37), (1, vr 19), (2, vi v2)] [] (n, Z1, R0)) := by
      intro fuel
      induction fuel with
      | zero => exact ⟨(by intros; omega), (by intros; omega)⟩
      | succ fuel ih =>
        obtain ⟨ih18, ih103⟩ := ih
        refine ⟨?_, ?_⟩
        · intro Z1 v2 hI1 hk1 hv hm
          obtain ⟨w0, -⟩ := hv
          clear hk hI
          refine wq_run hG n R0 [18, 103] 900 _ _ _ _ ?_
          repeat' (first
              | with_reducible rfl
              | refine And.intro ?_ ?_
              | with_reducible exact True.intro
              | ((with_reducible show _ = true); rfl)
              | ((with_reducible show recvG _ _); rfl)
              | ((with_reducible show CI _); first | with_reducible assumption | assumption)
              | (fail_if_success (first | (with_reducible show _ ≤ _) | (with_reducible show _ = _) | (with_reducible show _ ∨ _) | (with_reducible show _ < _) | (with_reducible show G _ _ _ _))
                 first
                 | show G _ _ _ _
                 | (intro (Z2 : ZT) hZ2; have hZ3 : Z' = Z2 := hZ2.symm; subst hZ3)
                 | (intro (Z2 : ZT) hZ2; have hZ3 : Z1 = Z2 := hZ2.symm; subst hZ3)
                 | (intro (Z2 : ZT) hZ2; have hZ3 : Z = Z2 := hZ2.symm; subst hZ3)
                 | (refine ld_bnd (by first | with_reducible assumption | assumption) rfl ?_; intro _ _ _ _)
                 | (refine st_bnd (by first | with_reducible assumption | assumption) (by first | with_reducible assumption | assumption) (by decide) (fun lo hi hb => by first | (cases hb; done) | (cases hb; constructor <;> (first | omega | (simp (disch := omega) only [w32_id, w64_id]; omega) | (simp (disch := omega) only [w32_id, w64_id] at *; omega) | (simp only [w32, w64] at *; omega) | exact (and32_le (by omega) (by omega)).1 | exact (and32_le (by omega) (by omega)).2 | exact (mulR (by omega) (by omega) (by omega) (by omega)).1 | exact (mulR (by omega) (by omega) (by omega) (by omega)).2 | (subst_vars; simp [upZ] at *; omega) | (subst_vars; simp [upZ] at *; simp only [w32, w64] at *; omega)))) ?_; intro Z' _ _ _)
                 | (intro (r : Option PV) σ' hq
                    first
                    | (obtain ⟨rfl, rfl⟩ := hq)
                    | (obtain ⟨Z', x, rfl, rfl, hI2, hk2, hl2, hu2⟩ := hq; have hk3 := keeps_to (by first | with_reducible assumption | assumption) (by rfl) hk2; clear hk2)
                    | (obtain ⟨Z', x, rfl, rfl, hI2, hk2⟩ := hq; have hk3 := keeps_to (by first | with_reducible assumption | assumption) (by rfl) hk2; clear hk2)
                    | (rcases hq with ⟨Z', rfl, rfl, hI2, hk2⟩ | ⟨Z', rfl, rfl, hI2, hk2⟩ <;> (have hk3 := keeps_to (by first | with_reducible assumption | assumption) (by rfl) hk2; clear hk2))
                    | (obtain ⟨Z', rfl, rfl, hI2, hk2⟩ := hq; have hk3 := keeps_to (by first | with_reducible assumption | assumption) (by rfl) hk2; clear hk2))
                 | (intro hc; (try simp only [cmp3_c] at hc); simp only [cmpI] at hc)
                 | (show CI _; assumption)
                 | intro (_ : Int)
                 | intro (Z' : ZT)
                 | intro (_ : CI _)
                 | intro (_ : keeps _ _ _)
                 | intro (_ : _ ≤ _)
                 | intro (_ : _ = _)
                 | intro (_ : _ < _)
                 | intro (_ : _ ∨ _)))
          all_goals first
            | with_reducible rfl
            | ((with_reducible show _ = _); rfl)
            | ((with_reducible show recvG _ _); rfl)
            | with_reducible exact trivial
            | ((fail_if_success (first | (with_reducible show _ ≤ _) | (with_reducible show _ = _) | (with_reducible show _ ∨ _) | (with_reducible show _ < _) | (with_reducible show G _ _ _ _))); (refine Exists.intro _ (And.intro rfl (And.intro rfl (And.intro ?_ ?_)))) <;> with_reducible assumption)
            | ((with_reducible show G 18 _ _ _); exact hG.2 18 _ [(0, vr 37), (1, vr 19), (2, vi _)] _ _ rfl (ih18 _ _ (by assumption) (by assumption) (by refine ⟨by first | omega | (refine ⟨?_, ?_⟩ <;> (first | omega | (simp (disch := omega) only [w32_id, w64_id]; omega) | (simp (disch := omega) only [w32_id, w64_id] at *; omega) | (simp only [w32, w64] at *; omega) | exact (and32_le (by omega) (by omega)).1 | exact (and32_le (by omega) (by omega)).2 | exact (mulR (by omega) (by omega) (by omega) (by omega)).1 | exact (mulR (by omega) (by omega) (by omega) (by omega)).2 | (subst_vars; simp [upZ] at *; omega) | (subst_vars; simp [upZ] at *; simp only [w32, w64] at *; omega))) | (first | omega | (simp (disch := omega) only [w32_id, w64_id]; omega) | (simp (disch := omega) only [w32_id, w64_id] at *; omega) | (simp only [w32, w64] at *; omega) | exact (and32_le (by omega) (by omega)).1 | exact (and32_le (by omega) (by omega)).2 | exact (mulR (by omega) (by omega) (by omega) (by omega)).1 | exact (mulR (by omega) (by omega) (by omega) (by omega)).2 | (subst_vars; simp [upZ] at *; omega) | (subst_vars; simp [upZ] at *; simp only [w32, w64] at *; omega)), trivial⟩) (by first | omega | (simp (disch := omega) only [w32_id, w64_id]; omega) | (simp (disch := omega) only [w32_id, w64_id] at *; omega) | (simp only [w32, w64] at *; omega) | exact (and32_le (by omega) (by omega)).1 | exact (and32_le (by omega) (by omega)).2 | exact (mulR (by omega) (by omega) (by omega) (by omega)).1 | exact (mulR (by omega) (by omega) (by omega) (by omega)).2 | (subst_vars; simp [upZ] at *; omega) | (subst_vars; simp [upZ] at *; simp only [w32, w64] at *; omega))))
            | ((with_reducible show G 103 _ _ _); exact hG.2 103 _ [(0, vr 37), (1, vr 19), (2, vi _)] _ _ rfl (ih103 _ _ (by assumption) (by assumption) (by refine ⟨by first | omega | (refine ⟨?_, ?_⟩ <;> (first | omega | (simp (disch := omega) only [w32_id, w64_id]; omega) | (simp (disch := omega) only [w32_id, w64_id] at *; omega) | (simp only [w32, w64] at *; omega) | exact (and32_le (by omega) (by omega)).1 | exact (and32_le (by omega) (by omega)).2 | exact (mulR (by omega) (by omega) (by omega) (by omega)).1 | exact (mulR (by omega) (by omega) (by omega) (by omega)).2 | (subst_vars; simp [upZ] at *; omega) | (subst_vars; simp [upZ] at *; simp only [w32, w64] at *; omega))) | (first | omega | (simp (disch := omega) only [w32_id, w64_id]; omega) | (simp (disch := omega) only [w32_id, w64_id] at *; omega) | (simp only [w32, w64] at *; omega) | exact (and32_le (by omega) (by omega)).1 | exact (and32_le (by omega) (by omega)).2 | exact (mulR (by omega) (by omega) (by omega) (by omega)).1 | exact (mulR (by omega) (by omega) (by omega) (by omega)).2 | (subst_vars; simp [upZ] at *; omega) | (subst_vars; simp [upZ] at *; simp only [w32, w64] at *; omega)), trivial⟩) (by first | omega | (simp (disch := omega) only [w32_id, w64_id]; omega) | (simp (disch := omega) only [w32_id, w64_id] at *; omega) | (simp only [w32, w64] at *; omega) | exact (and32_le (by omega) (by omega)).1 | exact (and32_le (by omega) (by omega)).2 | exact (mulR (by omega) (by omega) (by omega) (by omega)).1 | exact (mulR (by omega) (by omega) (by omega) (by omega)).2 | (subst_vars; simp [upZ] at *; omega) | (subst_vars; simp [upZ] at *; simp only [w32, w64] at *; omega))))
            | ((fail_if_success (first | (with_reducible show _ ≤ _) | (with_reducible show _ = _) | (with_reducible show _ ∨ _) | (with_reducible show _ < _) | (with_reducible show G _ _ _ _))); exact Exists.intro _ (Exists.intro _ ⟨rfl, rfl, by assumption, by assumption, by (first | omega | (simp (disch := omega) only [w32_id, w64_id]; omega) | (simp (disch := omega) only [w32_id, w64_id] at *; omega) | (simp only [w32, w64] at *; omega) | exact (and32_le (by omega) (by omega)).1 | exact (and32_le (by omega) (by omega)).2 | exact (mulR (by omega) (by omega) (by omega) (by omega)).1 | exact (mulR (by omega) (by omega) (by omega) (by omega)).2 | (subst_vars; simp [upZ] at *; omega) | (subst_vars; simp [upZ] at *; simp only [w32, w64] at *; omega)), by (first | omega | (simp (disch := omega) only [w32_id, w64_id]; omega) | (simp (disch := omega) only [w32_id, w64_id] at *; omega) | (simp only [w32, w64] at *; omega) | exact (and32_le (by omega) (by omega)).1 | exact (and32_le (by omega) (by omega)).2 | exact (mulR (by omega) (by omega) (by omega) (by omega)).1 | exact (mulR (by omega) (by omega) (by omega) (by omega)).2 | (subst_vars; simp [upZ] at *; omega) | (subst_vars; simp [upZ] at *; simp only [w32, w64] at *; omega))⟩))
            | ((fail_if_success (first | (with_reducible show _ ≤ _) | (with_reducible show _ = _) | (with_reducible show _ ∨ _) | (with_reducible show _ < _) | (with_reducible show G _ _ _ _))); exact Exists.intro _ (Exists.intro _ ⟨rfl, rfl, by assumption, by assumption⟩))
            | ((fail_if_success (first | (with_reducible show _ ≤ _) | (with_reducible show _ = _) | (with_reducible show _ ∨ _) | (with_reducible show _ < _) | (with_reducible show G _ _ _ _))); exact Exists.intro _ ⟨rfl, rfl, by assumption, by assumption⟩)
            | ((fail_if_success (first | (with_reducible show _ ≤ _) | (with_reducible show _ = _) | (with_reducible show _ ∨ _) | (with_reducible show _ < _) | (with_reducible show G _ _ _ _))); exact Or.inl (Exists.intro _ ⟨rfl, rfl, by assumption, by assumption⟩))
            | ((fail_if_success (first | (with_reducible show _ ≤ _) | (with_reducible show _ = _) | (with_reducible show _ ∨ _) | (with_reducible show _ < _) | (with_reducible show G _ _ _ _))); exact Or.inr (Exists.intro _ ⟨rfl, rfl, by assumption, by assumption⟩))
            | omega
            | rfl
            | exact trivial
            | decide
            | (show (0 : Int) < _; omega)
            | (show (0 : Int) < _; simp only [w64] at *; omega)
            | (simp only [w32, w64] at *; omega)
            | (first | omega | (simp (disch := omega) only [w32_id, w64_id]; omega) | (simp (disch := omega) only [w32_id, w64_id] at *; omega) | (simp only [w32, w64] at *; omega) | exact (and32_le (by omega) (by omega)).1 | exact (and32_le (by omega) (by omega)).2 | exact (mulR (by omega) (by omega) (by omega) (by omega)).1 | exact (mulR (by omega) (by omega) (by omega) (by omega)).2 | (subst_vars; simp [upZ] at *; omega) | (subst_vars; simp [upZ] at *; simp only [w32, w64] at *; omega))
            | skip
        · intro Z1 v2 hI1 hk1 hv hm
          obtain ⟨w0, -⟩ := hv
          clear hk hI
          refine wq_run hG n R0 [18, 103] 900 _ _ _ _ ?_
          repeat' (first
              | with_reducible rfl
              | refine And.intro ?_ ?_
              | with_reducible exact True.intro
              | ((with_reducible show _ = true); rfl)
              | ((with_reducible show recvG _ _); rfl)
              | ((with_reducible show CI _); first | with_reducible assumption | assumption)
              | (fail_if_success (first | (with_reducible show _ ≤ _) | (with_reducible show _ = _) | (with_reducible show _ ∨ _) | (with_reducible show _ < _) | (with_reducible show G _ _ _ _))
                 first
                 | show G _ _ _ _
                 | (intro (Z2 : ZT) hZ2; have hZ3 : Z' = Z2 := hZ2.symm; subst hZ3)
                 | (intro (Z2 : ZT) hZ2; have hZ3 : Z1 = Z2 := hZ2.symm; subst hZ3)
                 | (intro (Z2 : ZT) hZ2; have hZ3 : Z = Z2 := hZ2.symm; subst hZ3)
                 | (refine ld_bnd (by first | with_reducible assumption | assumption) rfl ?_; intro _ _ _ _)
                 | (refine st_bnd (by first | with_reducible assumption | assumption) (by first | with_reducible assumption | assumption) (by decide) (fun lo hi hb => by first | (cases hb; done) | (cases hb; constructor <;> (first | omega | (simp (disch := omega) only [w32_id, w64_id]; omega) | (simp (disch := omega) only [w32_id, w64_id] at *; omega) | (simp only [w32, w64] at *; omega) | exact (and32_le (by omega) (by omega)).1 | exact (and32_le (by omega) (by omega)).2 | exact (mulR (by omega) (by omega) (by omega) (by omega)).1 | exact (mulR (by omega) (by omega) (by omega) (by omega)).2 | (subst_vars; simp [upZ] at *; omega) | (subst_vars; simp [upZ] at *; simp only [w32, w64] at *; omega)))) ?_; intro Z' _ _ _)
                 | (intro (r : Option PV) σ' hq
                    first
                    | (obtain ⟨rfl, rfl⟩ := hq)
                    | (obtain ⟨Z', x, rfl, rfl, hI2, hk2, hl2, hu2⟩ := hq; have hk3 := keeps_to (by first | with_reducible assumption | assumption) (by rfl) hk2; clear hk2)
                    | (obtain ⟨Z', x, rfl, rfl, hI2, hk2⟩ := hq; have hk3 := keeps_to (by first | with_reducible assumption | assumption) (by rfl) hk2; clear hk2)
                    | (rcases hq with ⟨Z', rfl, rfl, hI2, hk2⟩ | ⟨Z', rfl, rfl, hI2, hk2⟩ <;> (have hk3 := keeps_to (by first | with_reducible assumption | assumption) (by rfl) hk2; clear hk2))
                    | (obtain ⟨Z', rfl, rfl, hI2, hk2⟩ := hq; have hk3 := keeps_to (by first | with_reducible assumption | assumption) (by rfl) hk2; clear hk2))
                 | (intro hc; (try simp only [cmp3_c] at hc); simp only [cmpI] at hc)
                 | (show CI _; assumption)
                 | intro (_ : Int)
                 | intro (Z' : ZT)
                 | intro (_ : CI _)
                 | intro (_ : keeps _ _ _)
                 | intro (_ : _ ≤ _)
                 | intro (_ : _ = _)
                 | intro (_ : _ < _)
                 | intro (_ : _ ∨ _)))
          all_goals first
            | with_reducible rfl
            | ((with_reducible show _ = _); rfl)
            | ((with_reducible show recvG _ _); rfl)
            | with_reducible exact trivial
            | ((fail_if_success (first | (with_reducible show _ ≤ _) | (with_reducible show _ = _) | (with_reducible show _ ∨ _) | (with_reducible show _ < _) | (with_reducible show G _ _ _ _))); (refine Exists.intro _ (And.intro rfl (And.intro rfl (And.intro ?_ ?_)))) <;> with_reducible assumption)
            | ((with_reducible show G 18 _ _ _); exact hG.2 18 _ [(0, vr 37), (1, vr 19), (2, vi _)] _ _ rfl (ih18 _ _ (by assumption) (by assumption) (by refine ⟨by first | omega | (refine ⟨?_, ?_⟩ <;> (first | omega | (simp (disch := omega) only [w32_id, w64_id]; omega) | (simp (disch := omega) only [w32_id, w64_id] at *; omega) | (simp only [w32, w64] at *; omega) | exact (and32_le (by omega) (by omega)).1 | exact (and32_le (by omega) (by omega)).2 | exact (mulR (by omega) (by omega) (by omega) (by omega)).1 | exact (mulR (by omega) (by omega) (by omega) (by omega)).2 | (subst_vars; simp [upZ] at *; omega) | (subst_vars; simp [upZ] at *; simp only [w32, w64] at *; omega))) | (first | omega | (simp (disch := omega) only [w32_id, w64_id]; omega) | (simp (disch := omega) only [w32_id, w64_id] at *; omega) | (simp only [w32, w64] at *; omega) | exact (and32_le (by omega) (by omega)).1 | exact (and32_le (by omega) (by omega)).2 | exact (mulR (by omega) (by omega) (by omega) (by omega)).1 | exact (mulR (by omega) (by omega) (by omega) (by omega)).2 | (subst_vars; simp [upZ] at *; omega) | (subst_vars; simp [upZ] at *; simp only [w32, w64] at *; omega)), trivial⟩) (by first | omega | (simp (disch := omega) only [w32_id, w64_id]; omega) | (simp (disch := omega) only [w32_id, w64_id] at *; omega) | (simp only [w32, w64] at *; omega) | exact (and32_le (by omega) (by omega)).1 | exact (and32_le (by omega) (by omega)).2 | exact (mulR (by omega) (by omega) (by omega) (by omega)).1 | exact (mulR (by omega) (by omega) (by omega) (by omega)).2 | (subst_vars; simp [upZ] at *; omega) | (subst_vars; simp [upZ] at *; simp only [w32, w64] at *; omega))))
            | ((with_reducible show G 103 _ _ _); exact hG.2 103 _ [(0, vr 37), (1, vr 19), (2, vi _)] _ _ rfl (ih103 _ _ (by assumption) (by assumption) (by refine ⟨by first | omega | (refine ⟨?_, ?_⟩ <;> (first | omega | (simp (disch := omega) only [w32_id, w64_id]; omega) | (simp (disch := omega) only [w32_id, w64_id] at *; omega) | (simp only [w32, w64] at *; omega) | exact (and32_le (by omega) (by omega)).1 | exact (and32_le (by omega) (by omega)).2 | exact (mulR (by omega) (by omega) (by omega) (by omega)).1 | exact (mulR (by omega) (by omega) (by omega) (by omega)).2 | (subst_vars; simp [upZ] at *; omega) | (subst_vars; simp [upZ] at *; simp only [w32, w64] at *; omega))) | (first | omega | (simp (disch := omega) only [w32_id, w64_id]; omega) | (simp (disch := omega) only [w32_id, w64_id] at *; omega) | (simp only [w32, w64] at *; omega) | exact (and32_le (by omega) (by omega)).1 | exact (and32_le (by omega) (by omega)).2 | exact (mulR (by omega) (by omega) (by omega) (by omega)).1 | exact (mulR (by omega) (by omega) (by omega) (by omega)).2 | (subst_vars; simp [upZ] at *; omega) | (subst_vars; simp [upZ] at *; simp only [w32, w64] at *; omega)), trivial⟩) (by first | omega | (simp (disch := omega) only [w32_id, w64_id]; omega) | (simp (disch := omega) only [w32_id, w64_id] at *; omega) | (simp only [w32, w64] at *; omega) | exact (and32_le (by omega) (by omega)).1 | exact (and32_le (by omega) (by omega)).2 | exact (mulR (by omega) (by omega) (by omega) (by omega)).1 | exact (mulR (by omega) (by omega) (by omega) (by omega)).2 | (subst_vars; simp [upZ] at *; omega) | (subst_vars; simp [upZ] at *; simp only [w32, w64] at *; omega))))
            | ((fail_if_success (first | (with_reducible show _ ≤ _) | (with_reducible show _ = _) | (with_reducible show _ ∨ _) | (with_reducible show _ < _) | (with_reducible show G _ _ _ _))); exact Exists.intro _ (Exists.intro _ ⟨rfl, rfl, by assumption, by assumption, by (first | omega | (simp (disch := omega) only [w32_id, w64_id]; omega) | (simp (disch := omega) only [w32_id, w64_id] at *; omega) | (simp only [w32, w64] at *; omega) | exact (and32_le (by omega) (by omega)).1 | exact (and32_le (by omega) (by omega)).2 | exact (mulR (by omega) (by omega) (by omega) (by omega)).1 | exact (mulR (by omega) (by omega) (by omega) (by omega)).2 | (subst_vars; simp [upZ] at *; omega) | (subst_vars; simp [upZ] at *; simp only [w32, w64] at *; omega)), by (first | omega | (simp (disch := omega) only [w32_id, w64_id]; omega) | (simp (disch := omega) only [w32_id, w64_id] at *; omega) | (simp only [w32, w64] at *; omega) | exact (and32_le (by omega) (by omega)).1 | exact (and32_le (by omega) (by omega)).2 | exact (mulR (by omega) (by omega) (by omega) (by omega)).1 | exact (mulR (by omega) (by omega) (by omega) (by omega)).2 | (subst_vars; simp [upZ] at *; omega) | (subst_vars; simp [upZ] at *; simp only [w32, w64] at *; omega))⟩))
            | ((fail_if_success (first | (with_reducible show _ ≤ _) | (with_reducible show _ = _) | (with_reducible show _ ∨ _) | (with_reducible show _ < _) | (with_reducible show G _ _ _ _))); exact Exists.intro _ (Exists.intro _ ⟨rfl, rfl, by assumption, by assumption⟩))
            | ((fail_if_success (first | (with_reducible show _ ≤ _) | (with_reducible show _ = _) | (with_reducible show _ ∨ _) | (with_reducible show _ < _) | (with_reducible show G _ _ _ _))); exact Exists.intro _ ⟨rfl, rfl, by assumption, by assumption⟩)
            | ((fail_if_success (first | (with_reducible show _ ≤ _) | (with_reducible show _ = _) | (with_reducible show _ ∨ _) | (with_reducible show _ < _) | (with_reducible show G _ _ _ _))); exact Or.inl (Exists.intro _ ⟨rfl, rfl, by assumption, by assumption⟩))
            | ((fail_if_success (first | (with_reducible show _ ≤ _) | (with_reducible show _ = _) | (with_reducible show _ ∨ _) | (with_reducible show _ < _) | (with_reducible show G _ _ _ _))); exact Or.inr (Exists.intro _ ⟨rfl, rfl, by assumption, by assumption⟩))
            | omega
            | rfl
            | exact trivial
            | decide
            | (show (0 : Int) < _; omega)
            | (show (0 : Int) < _; simp only [w64] at *; omega)
            | (simp only [w32, w64] at *; omega)
            | (first | omega | (simp (disch := omega) only [w32_id, w64_id]; omega) | (simp (disch := omega) only [w32_id, w64_id] at *; omega) | (simp only [w32, w64] at *; omega) | exact (and32_le (by omega) (by omega)).1 | exact (and32_le (by omega) (by omega)).2 | exact (mulR (by omega) (by omega) (by omega) (by omega)).1 | exact (mulR (by omega) (by omega) (by omega) (by omega)).2 | (subst_vars; simp [upZ] at *; omega) | (subst_vars; simp [upZ] at *; simp only [w32, w64] at *; omega))
            | skip
    refine wq_run hG n R0 [18, 103] 900 _ _ _ _ ?_
    repeat' (first
        | with_reducible rfl
        | refine And.intro ?_ ?_
        | with_reducible exact True.intro
        | ((with_reducible show _ = true); rfl)
        | ((with_reducible show recvG _ _); rfl)
        | ((with_reducible show CI _); first | with_reducible assumption | assumption)
        | (fail_if_success (first | (with_reducible show _ ≤ _) | (with_reducible show _ = _) | (with_reducible show _ ∨ _) | (with_reducible show _ < _) | (with_reducible show G _ _ _ _))
           first
           | show G _ _ _ _
           | (intro (Z2 : ZT) hZ2; have hZ3 : Z' = Z2 := hZ2.symm; subst hZ3)
           | (intro (Z2 : ZT) hZ2; have hZ3 : Z1 = Z2 := hZ2.symm; subst hZ3)
           | (intro (Z2 : ZT) hZ2; have hZ3 : Z = Z2 := hZ2.symm; subst hZ3)
           | (refine ld_bnd (by first | with_reducible assumption | assumption) rfl ?_; intro _ _ _ _)
           | (refine st_bnd (by first | with_reducible assumption | assumption) (by first | with_reducible assumption | assumption) (by decide) (fun lo hi hb => by first | (cases hb; done) | (cases hb; constructor <;> (first | omega | (simp (disch := omega) only [w32_id, w64_id]; omega) | (simp (disch := omega) only [w32_id, w64_id] at *; omega) | (simp only [w32, w64] at *; omega) | exact (and32_le (by omega) (by omega)).1 | exact (and32_le (by omega) (by omega)).2 | exact (mulR (by omega) (by omega) (by omega) (by omega)).1 | exact (mulR (by omega) (by omega) (by omega) (by omega)).2 | (subst_vars; simp [upZ] at *; omega) | (subst_vars; simp [upZ] at *; simp only [w32, w64] at *; omega)))) ?_; intro Z' _ _ _)
           | (intro (r : Option PV) σ' hq
              first
              | (obtain ⟨rfl, rfl⟩ := hq)
              | (obtain ⟨Z', x, rfl, rfl, hI2, hk2, hl2, hu2⟩ := hq; have hk3 := keeps_to (by first | with_reducible assumption | assumption) (by rfl) hk2; clear hk2)
              | (obtain ⟨Z', x, rfl, rfl, hI2, hk2⟩ := hq; have hk3 := keeps_to (by first | with_reducible assumption | assumption) (by rfl) hk2; clear hk2)
              | (rcases hq with ⟨Z', rfl, rfl, hI2, hk2⟩ | ⟨Z', rfl, rfl, hI2, hk2⟩ <;> (have hk3 := keeps_to (by first | with_reducible assumption | assumption) (by rfl) hk2; clear hk2))
              | (obtain ⟨Z', rfl, rfl, hI2, hk2⟩ := hq; have hk3 := keeps_to (by first | with_reducible assumption | assumption) (by rfl) hk2; clear hk2))
           | (intro hc; (try simp only [cmp3_c] at hc); simp only [cmpI] at hc)
           | (show CI _; assumption)
           | intro (_ : Int)
           | intro (Z' : ZT)
           | intro (_ : CI _)
           | intro (_ : keeps _ _ _)
           | intro (_ : _ ≤ _)
           | intro (_ : _ = _)
           | intro (_ : _ < _)
           | intro (_ : _ ∨ _)))
    all_goals (try obtain ⟨lp18, lp103⟩ := loop 1000000)
    all_goals first
      | with_reducible rfl
      | ((with_reducible show _ = _); rfl)
      | ((with_reducible show recvG _ _); rfl)
      | with_reducible exact trivial
      | ((fail_if_success (first | (with_reducible show _ ≤ _) | (with_reducible show _ = _) | (with_reducible show _ ∨ _) | (with_reducible show _ < _) | (with_reducible show G _ _ _ _))); (refine Exists.intro _ (And.intro rfl (And.intro rfl (And.intro ?_ ?_)))) <;> with_reducible assumption)
      | ((with_reducible show G 18 _ _ _); exact hG.2 18 _ [(0, vr 37), (1, vr 19), (2, vi _)] _ _ rfl (lp18 _ _ (by assumption) (by assumption) (by refine ⟨by first | omega | (refine ⟨?_, ?_⟩ <;> (first | omega | (simp (disch := omega) only [w32_id, w64_id]; omega) | (simp (disch := omega) only [w32_id, w64_id] at *; omega) | (simp only [w32, w64] at *; omega) | exact (and32_le (by omega) (by omega)).1 | exact (and32_le (by omega) (by omega)).2 | exact (mulR (by omega) (by omega) (by omega) (by omega)).1 | exact (mulR (by omega) (by omega) (by omega) (by omega)).2 | (subst_vars; simp [upZ] at *; omega) | (subst_vars; simp [upZ] at *; simp only [w32, w64] at *; omega))) | (first | omega | (simp (disch := omega) only [w32_id, w64_id]; omega) | (simp (disch := omega) only [w32_id, w64_id] at *; omega) | (simp only [w32, w64] at *; omega) | exact (and32_le (by omega) (by omega)).1 | exact (and32_le (by omega) (by omega)).2 | exact (mulR (by omega) (by omega) (by omega) (by omega)).1 | exact (mulR (by omega) (by omega) (by omega) (by omega)).2 | (subst_vars; simp [upZ] at *; omega) | (subst_vars; simp [upZ] at *; simp only [w32, w64] at *; omega)), trivial⟩) (by first | omega | (simp (disch := omega) only [w32_id, w64_id]; omega) | (simp (disch := omega) only [w32_id, w64_id] at *; omega) | (simp only [w32, w64] at *; omega) | exact (and32_le (by omega) (by omega)).1 | exact (and32_le (by omega) (by omega)).2 | exact (mulR (by omega) (by omega) (by omega) (by omega)).1 | exact (mulR (by omega) (by omega) (by omega) (by omega)).2 | (subst_vars; simp [upZ] at *; omega) | (subst_vars; simp [upZ] at *; simp only [w32, w64] at *; omega))))
      | ((with_reducible show G 103 _ _ _); exact hG.2 103 _ [(0, vr 37), (1, vr 19), (2, vi _)] _ _ rfl (lp103 _ _ (by assumption) (by assumption) (by refine ⟨by first | omega | (refine ⟨?_, ?_⟩ <;> (first | omega | (simp (disch := omega) only [w32_id, w64_id]; omega) | (simp (disch := omega) only [w32_id, w64_id] at *; omega) | (simp only [w32, w64] at *; omega) | exact (and32_le (by omega) (by omega)).1 | exact (and32_le (by omega) (by omega)).2 | exact (mulR (by omega) (by omega) (by omega) (by omega)).1 | exact (mulR (by omega) (by omega) (by omega) (by omega)).2 | (subst_vars; simp [upZ] at *; omega) | (subst_vars; simp [upZ] at *; simp only [w32, w64] at *; omega))) | (first | omega | (simp (disch := omega) only [w32_id, w64_id]; omega) | (simp (disch := omega) only [w32_id, w64_id] at *; omega) | (simp only [w32, w64] at *; omega) | exact (and32_le (by omega) (by omega)).1 | exact (and32_le (by omega) (by omega)).2 | exact (mulR (by omega) (by omega) (by omega) (by omega)).1 | exact (mulR (by omega) (by omega) (by omega) (by omega)).2 | (subst_vars; simp [upZ] at *; omega) | (subst_vars; simp [upZ] at *; simp only [w32, w64] at *; omega)), trivial⟩) (by first | omega | (simp (disch := omega) only [w32_id, w64_id]; omega) | (simp (disch := omega) only [w32_id, w64_id] at *; omega) | (simp only [w32, w64] at *; omega) | exact (and32_le (by omega) (by omega)).1 | exact (and32_le (by omega) (by omega)).2 | exact (mulR (by omega) (by omega) (by omega) (by omega)).1 | exact (mulR (by omega) (by omega) (by omega) (by omega)).2 | (subst_vars; simp [upZ] at *; omega) | (subst_vars; simp [upZ] at *; simp only [w32, w64] at *; omega))))
      | ((fail_if_success (first | (with_reducible show _ ≤ _) | (with_reducible show _ = _) | (with_reducible show _ ∨ _) | (with_reducible show _ < _) | (with_reducible show G _ _ _ _))); exact Exists.intro _ (Exists.intro _ ⟨rfl, rfl, by assumption, by assumption, by (first | omega | (simp (disch := omega) only [w32_id, w64_id]; omega) | (simp (disch := omega) only [w32_id, w64_id] at *; omega) | (simp only [w32, w64] at *; omega) | exact (and32_le (by omega) (by omega)).1 | exact (and32_le (by omega) (by omega)).2 | exact (mulR (by omega) (by omega) (by omega) (by omega)).1 | exact (mulR (by omega) (by omega) (by omega) (by omega)).2 | (subst_vars; simp [upZ] at *; omega) | (subst_vars; simp [upZ] at *; simp only [w32, w64] at *; omega)), by (first | omega | (simp (disch := omega) only [w32_id, w64_id]; omega) | (simp (disch := omega) only [w32_id, w64_id] at *; omega) | (simp only [w32, w64] at *; omega) | exact (and32_le (by omega) (by omega)).1 | exact (and32_le (by omega) (by omega)).2 | exact (mulR (by omega) (by omega) (by omega) (by omega)).1 | exact (mulR (by omega) (by omega) (by omega) (by omega)).2 | (subst_vars; simp [upZ] at *; omega) | (subst_vars; simp [upZ] at *; simp only [w32, w64] at *; omega))⟩))
      | ((fail_if_success (first | (with_reducible show _ ≤ _) | (with_reducible show _ = _) | (with_reducible show _ ∨ _) | (with_reducible show _ < _) | (with_reducible show G _ _ _ _))); exact Exists.intro _ (Exists.intro _ ⟨rfl, rfl, by assumption, by assumption⟩))
      | ((fail_if_success (first | (with_reducible show _ ≤ _) | (with_reducible show _ = _) | (with_reducible show _ ∨ _) | (with_reducible show _ < _) | (with_reducible show G _ _ _ _))); exact Exists.intro _ ⟨rfl, rfl, by assumption, by assumption⟩)
      | ((fail_if_success (first | (with_reducible show _ ≤ _) | (with_reducible show _ = _) | (with_reducible show _ ∨ _) | (with_reducible show _ < _) | (with_reducible show G _ _ _ _))); exact Or.inl (Exists.intro _ ⟨rfl, rfl, by assumption, by assumption⟩))
      | ((fail_if_success (first | (with_reducible show _ ≤ _) | (with_reducible show _ = _) | (with_reducible show _ ∨ _) | (with_reducible show _ < _) | (with_reducible show G _ _ _ _))); exact Or.inr (Exists.intro _ ⟨rfl, rfl, by assumption, by assumption⟩))
      | omega
      | rfl
      | exact trivial
      | decide
      | (show (0 : Int) < _; omega)
      | (show (0 : Int) < _; simp only [w64] at *; omega)
      | (simp only [w32, w64] at *; omega)
      | (first | omega | (simp (disch := omega) only [w32_id, w64_id]; omega) | (simp (disch := omega) only [w32_id, w64_id] at *; omega) | (simp only [w32, w64] at *; omega) | exact (and32_le (by omega) (by omega)).1 | exact (and32_le (by omega) (by omega)).2 | exact (mulR (by omega) (by omega) (by omega) (by omega)).1 | exact (mulR (by omega) (by omega) (by omega) (by omega)).2 | (subst_vars; simp [upZ] at *; omega) | (subst_vars; simp [upZ] at *; simp only [w32, w64] at *; omega))
      | skip
  · have loop : ∀ fuel : Nat, (∀ (Z1 : ZT) (v2 : Int), CI Z1 → keeps ([54, 54 + 1, 54 + 2, 54 + 3, 54 + 4, 54 + 5, 54 + 6, 54 + 7, 54 + 8, 54 + 9]) Z Z1 → ((0 ≤ v2 ∧ v2 ≤ 4) ∧ True) → 200 - v2 ≤ (fuel : Int) → G 18 [(0, vr 54), (1, vr 19), (2, vi v2)] [] (n, Z1, R0)) ∧ (∀ (Z1 : ZT) (v2 : Int), CI Z1 → keeps ([54, 54 + 1, 54 + 2, 54 + 3, 54 + 4, 54 + 5, 54 + 6, 54 + 7, 54 + 8, 54 + 9]) Z Z1 → ((0 ≤ v2 ∧ v2 ≤ 80) ∧ True) → 81 - v2 ≤ (fuel : Int) → G 103 [(0, vr 54), (1, vr 19), (2, vi v2)] [] (n, Z1, R0)) := by
      intro fuel
      induction fuel with
      | zero => exact ⟨(by intros; omega), (by intros; omega)⟩
      | succ fuel ih =>
        obtain ⟨ih18, ih103⟩ := ih
        refine ⟨?_, ?_⟩
        · intro Z1 v2 hI1 hk1 hv hm
          obtain ⟨w0, -⟩ := hv
          clear hk hI
          refine wq_run hG n R0 [18, 103] 900 _ _ _ _ ?_
          repeat' (first
              | with_reducible rfl
              | refine And.intro ?_ ?_
              | with_reducible exact True.intro
              | ((with_reducible show _ = true); rfl)
              | ((with_reducible show recvG _ _); rfl)
              | ((with_reducible show CI _); first | with_reducible assumption | assumption)
              | (fail_if_success (first | (with_reducible show _ ≤ _) | (with_reducible show _ = _) | (with_reducible show _ ∨ _) | (with_reducible show _ < _) | (with_reducible show G _ _ _ _))
                 first
                 | show G _ _ _ _
                 | (intro (Z2 : ZT) hZ2; have hZ3 : Z' = Z2 := hZ2.symm; subst hZ3)
                 | (intro (Z2 : ZT) hZ2; have hZ3 : Z1 = Z2 := hZ2.symm; subst hZ3)
                 | (intro (Z2 : ZT) hZ2; have hZ3 : Z = Z2 := hZ2.symm; subst hZ3)
                 | (refine ld_bnd (by first | with_reducible assumption | assumption) rfl ?_; intro _ _ _ _)
                 | (refine st_bnd (by first | with_reducible assumption | assumption) (by first | with_reducible assumption | assumption) (by decide) (fun lo hi hb => by first | (cases hb; done) | (cases hb; constructor <;> (first | omega | (simp (disch := omega) only [w32_id, w64_id]; omega) | (simp (disch := omega) only [w32_id, w64_id] at *; omega) | (simp only [w32, w64] at *; omega) | exact (and32_le (by omega) (by omega)).1 | exact (and32_le (by omega) (by omega)).2 | exact (mulR (by omega) (by omega) (by omega) (by omega)).1 | exact (mulR (by omega) (by omega) (by omega) (by omega)).2 | (subst_vars; simp [upZ] at *; omega) | (subst_vars; simp [upZ] at *; simp only [w32, w64] at *; omega)))) ?_; intro Z' _ _ _)
                 | (intro (r : Option PV) σ' hq
                    first
                    | (obtain ⟨rfl, rfl⟩ := hq)
                    | (obtain ⟨Z', x, rfl, rfl, hI2, hk2, hl2, hu2⟩ := hq; have hk3 := keeps_to (by first | with_reducible assumption | assumption) (by rfl) hk2; clear hk2)
                    | (obtain ⟨Z', x, rfl, rfl, hI2, hk2⟩ := hq; have hk3 := keeps_to (by first | with_reducible assumption | assumption) (by rfl) hk2; clear hk2)
                    | (rcases hq with ⟨Z', rfl, rfl, hI2, hk2⟩ | ⟨Z', rfl, rfl, hI2, hk2⟩ <;> (have hk3 := keeps_to (by first | with_reducible assumption | assumption) (by rfl) hk2; clear hk2))
                    | (obtain ⟨Z', rfl, rfl, hI2, hk2⟩ := hq; have hk3 := keeps_to (by first | with_reducible assumption | assumption) (by rfl) hk2; clear hk2))
                 | (intro hc; (try simp only [cmp3_c] at hc); simp only [cmpI] at hc)
                 | (show CI _; assumption)
                 | intro (_ : Int)
                 | intro (Z' : ZT)
                 | intro (_ : CI _)
                 | intro (_ : keeps _ _ _)
                 | intro (_ : _ ≤ _)
                 | intro (_ : _ = _)
                 | intro (_ : _ < _)
                 | intro (_ : _ ∨ _)))
          all_goals first
            | with_reducible rfl
            | ((with_reducible show _ = _); rfl)
            | ((with_reducible show recvG _ _); rfl)
            | with_reducible exact trivial
            | ((fail_if_success (first | (with_reducible show _ ≤ _) | (with_reducible show _ = _) | (with_reducible show _ ∨ _) | (with_reducible show _ < _) | (with_reducible show G _ _ _ _))); (refine Exists.intro _ (And.intro rfl (And.intro rfl (And.intro ?_ ?_)))) <;> with_reducible assumption)
            | ((with_reducible show G 18 _ _ _); exact hG.2 18 _ [(0, vr 54), (1, vr 19), (2, vi _)] _ _ rfl (ih18 _ _ (by assumption) (by assumption) (by refine ⟨by first | omega | (refine ⟨?_, ?_⟩ <;> (first | omega | (simp (disch := omega) only [w32_id, w64_id]; omega) | (simp (disch := omega) only [w32_id, w64_id] at *; omega) | (simp only [w32, w64] at *; omega) | exact (and32_le (by omega) (by omega)).1 | exact (and32_le (by omega) (by omega)).2 | exact (mulR (by omega) (by omega) (by omega) (by omega)).1 | exact (mulR (by omega) (by omega) (by omega) (by omega)).2 | (subst_vars; simp [upZ] at *; omega) | (subst_vars; simp [upZ] at *; simp only [w32, w64] at *; omega))) | (first | omega | (simp (disch := omega) only [w32_id, w64_id]; omega) | (simp (disch := omega) only [w32_id, w64_id] at *; omega) | (simp only [w32, w64] at *; omega) | exact (and32_le (by omega) (by omega)).1 | exact (and32_le (by omega) (by omega)).2 | exact (mulR (by omega) (by omega) (by omega) (by omega)).1 | exact (mulR (by omega) (by omega) (by omega) (by omega)).2 | (subst_vars; simp [upZ] at *; omega) | (subst_vars; simp [upZ] at *; simp only [w32, w64] at *; omega)), trivial⟩) (by first | omega | (simp (disch := omega) only [w32_id, w64_id]; omega) | (simp (disch := omega) only [w32_id, w64_id] at *; omega) | (simp only [w32, w64] at *; omega) | exact (and32_le (by omega) (by omega)).1 | exact (and32_le (by omega) (by omega)).2 | exact (mulR (by omega) (by omega) (by omega) (by omega)).1 | exact (mulR (by omega) (by omega) (by omega) (by omega)).2 | (subst_vars; simp [upZ] at *; omega) | (subst_vars; simp [upZ] at *; simp only [w32, w64] at *; omega))))
            | ((with_reducible show G 103 _ _ _); exact hG.2 103 _ [(0, vr 54), (1, vr 19), (2, vi _)] _ _ rfl (ih103 _ _ (by assumption) (by assumption) (by refine ⟨by first | omega | (refine ⟨?_, ?_⟩ <;> (first | omega | (simp (disch := omega) only [w32_id, w64_id]; omega) | (simp (disch := omega) only [w32_id, w64_id] at *; omega) | (simp only [w32, w64] at *; omega) | exact (and32_le (by omega) (by omega)).1 | exact (and32_le (by omega) (by omega)).2 | exact (mulR (by omega) (by omega) (by omega) (by omega)).1 | exact (mulR (by omega) (by omega) (by omega) (by omega)).2 | (subst_vars; simp [upZ] at *; omega) | (subst_vars; simp [upZ] at *; simp only [w32, w64] at *; omega))) | (first | omega | (simp (disch := omega) only [w32_id, w64_id]; omega) | (simp (disch := omega) only [w32_id, w64_id] at *; omega) | (simp only [w32, w64] at *; omega) | exact (and32_le (by omega) (by omega)).1 | exact (and32_le (by omega) (by omega)).2 | exact (mulR (by omega) (by omega) (by omega) (by omega)).1 | exact (mulR (by omega) (by omega) (by omega) (by omega)).2 | (subst_vars; simp [upZ] at *; omega) | (subst_vars; simp [upZ] at *; simp only [w32, w64] at *; omega)), trivial⟩) (by first | omega | (simp (disch := omega) only [w32_id, w64_id]; omega) | (simp (disch := omega) only [w32_id, w64_id] at *; omega) | (simp only [w32, w64] at *; omega) | exact (and32_le (by omega) (by omega)).1 | exact (and32_le (by omega) (by omega)).2 | exact (mulR (by omega) (by omega) (by omega) (by omega)).1 | exact (mulR (by omega) (by omega) (by omega) (by omega)).2 | (subst_vars; simp [upZ] at *; omega) | (subst_vars; simp [upZ] at *; simp only [w32, w64] at *; omega))))
            | ((fail_if_success (first | (with_reducible show _ ≤ _) | (with_reducible show _ = _) | (with_reducible show _ ∨ _) | (with_reducible show _ < _) | (with_reducible show G _ _ _ _))); exact Exists.intro _ (Exists.intro _ ⟨rfl, rfl, by assumption, by assumption, by (first | omega | (simp (disch := omega) only [w32_id, w64_id]; omega) | (simp (disch := omega) only [w32_id, w64_id] at *; omega) | (simp only [w32, w64] at *; omega) | exact (and32_le (by omega) (by omega)).1 | exact (and32_le (by omega) (by omega)).2 | exact (mulR (by omega) (by omega) (by omega) (by omega)).1 | exact (mulR (by omega) (by omega) (by omega) (by omega)).2 | (subst_vars; simp [upZ] at *; omega) | (subst_vars; simp [upZ] at *; simp only [w32, w64] at *; omega)), by (first | omega | (simp (disch := omega) only [w32_id, w64_id]; omega) | (simp (disch := omega) only [w32_id, w64_id] at *; omega) | (simp only [w32, w64] at *; omega) | exact (and32_le (by omega) (by omega)).1 | exact (and32_le (by omega) (by omega)).2 | exact (mulR (by omega) (by omega) (by omega) (by omega)).1 | exact (mulR (by omega) (by omega) (by omega) (by omega)).2 | (subst_vars; simp [upZ] at *; omega) | (subst_vars; simp [upZ] at *; simp only [w32, w64] at *; omega))⟩))
            | ((fail_if_success (first | (with_reducible show _ ≤ _) | (with_reducible show _ = _) | (with_reducible show _ ∨ _) | (with_reducible show _ < _) | (with_reducible show G _ _ _ _))); exact Exists.intro _ (Exists.intro _ ⟨rfl, rfl, by assumption, by assumption⟩))
            | ((fail_if_success (first | (with_reducible show _ ≤ _) | (with_reducible show _ = _) | (with_reducible show _ ∨ _) | (with_reducible show _ < _) | (with_reducible show G _ _ _ _))); exact Exists.intro _ ⟨rfl, rfl, by assumption, by assumption⟩)
            | ((fail_if_success (first | (with_reducible show _ ≤ _) | (with_reducible show _ = _) | (with_reducible show _ ∨ _) | (with_reducible show _ < _) | (with_reducible show G _ _ _ _))); exact Or.inl (Exists.intro _ ⟨rfl, rfl, by assumption, by assumption⟩))
            | ((fail_if_success (first | (with_reducible show _ ≤ _) | (with_reducible show _ = _) | (with_reducible show _ ∨ _) | (with_reducible show _ < _) | (with_reducible show G _ _ _ _))); exact Or.inr (Exists.intro _ ⟨rfl, rfl, by assumption, by assumption⟩))
            | omega
            | rfl
            | exact trivial
            | decide
            | (show (0 : Int) < _; omega)
            | (show (0 : Int) < _; simp only [w64] at *; omega)
            | (simp only [w32, w64] at *; omega)
            | (first | omega | (simp (disch := omega) only [w32_id, w64_id]; omega) | (simp (disch := omega) only [w32_id, w64_id] at *; omega) | (simp only [w32, w64] at *; omega) | exact (and32_le (by omega) (by omega)).1 | exact (and32_le (by omega) (by omega)).2 | exact (mulR (by omega) (by omega) (by omega) (by omega)).1 | exact (mulR (by omega) (by omega) (by omega) (by omega)).2 | (subst_vars; simp [upZ] at *; omega) | (subst_vars; simp [upZ] at *; simp only [w32, w64] at *; omega))
            | skip
        · intro Z1 v2 hI1 hk1 hv hm
          obtain ⟨w0, -⟩ := hv
          clear hk hI
          refine wq_run hG n R0 [18, 103] 900 _ _ _ _ ?_
          repeat' (first
              | with_reducible rfl
              | refine And.intro ?_ ?_
              | with_reducible exact True.intro
              | ((with_reducible show _ = true); rfl)
              | ((with_reducible show recvG _ _); rfl)
              | ((with_reducible show CI _); first | with_reducible assumption | assumption)
              | (fail_if_success (first | (with_reducible show _ ≤ _) | (with_reducible show _ = _) | (with_reducible show _ ∨ _) | (with_reducible show _ < _) | (with_reducible show G _ _ _ _))
                 first
                 | show G _ _ _ _
                 | (intro (Z2 : ZT) hZ2; have hZ3 : Z' = Z2 := hZ2.symm; subst hZ3)
                 | (intro (Z2 : ZT) hZ2; have hZ3 : Z1 = Z2 := hZ2.symm; subst hZ3)
                 | (intro (Z2 : ZT) hZ2; have hZ3 : Z = Z2 := hZ2.symm; subst hZ3)
                 | (refine ld_bnd (by first | with_reducible assumption | assumption) rfl ?_; intro _ _ _ _)
                 | (refine st_bnd (by first | with_reducible assumption | assumption) (by first | with_reducible assumption | assumption) (by decide) (fun lo hi hb => by first | (cases hb; done) | (cases hb; constructor <;> (first | omega | (simp (disch := omega) only [w32_id, w64_id]; omega) | (simp (disch := omega) only [w32_id, w64_id] at *; omega) | (simp only [w32, w64] at *; omega) | exact (and32_le (by omega) (by omega)).1 | exact (and32_le (by omega) (by omega)).2 | exact (mulR (by omega) (by omega) (by omega) (by omega)).1 | exact (mulR (by omega) (by omega) (by omega) (by omega)).2 | (subst_vars; simp [upZ] at *; omega) | (subst_vars; simp [upZ] at *; simp only [w32, w64] at *; omega)))) ?_; intro Z' _ _ _)
                 | (intro (r : Option PV) σ' hq
                    first
                    | (obtain ⟨rfl, rfl⟩ := hq)
                    | (obtain ⟨Z', x, rfl, rfl, hI2, hk2, hl2, hu2⟩ := hq; have hk3 := keeps_to (by first | with_reducible assumption | assumption) (by rfl) hk2; clear hk2)
                    | (obtain ⟨Z', x, rfl, rfl, hI2, hk2⟩ := hq; have hk3 := keeps_to (by first | with_reducible assumption | assumption) (by rfl) hk2; clear hk2)
                    | (rcases hq with ⟨Z', rfl, rfl, hI2, hk2⟩ | ⟨Z', rfl, rfl, hI2, hk2⟩ <;> (have hk3 := keeps_to (by first | with_reducible assumption | assumption) (by rfl) hk2; clear hk2))
                    | (obtain ⟨Z', rfl, rfl, hI2, hk2⟩ := hq; have hk3 := keeps_to (by first | with_reducible assumption | assumption) (by rfl) hk2; clear hk2))
                 | (intro hc; (try simp only [cmp3_c] at hc); simp only [cmpI] at hc)
                 | (show CI _; assumption)
                 | intro (_ : Int)
                 | intro (Z' : ZT)
                 | intro (_ : CI _)
                 | intro (_ : keeps _ _ _)
                 | intro (_ : _ ≤ _)
                 | intro (_ : _ = _)
                 | intro (_ : _ < _)
                 | intro (_ : _ ∨ _)))
          all_goals first
            | with_reducible rfl
            | ((with_reducible show _ = _); rfl)
            | ((with_reducible show recvG _ _); rfl)
            | with_reducible exact trivial
            | ((fail_if_success (first | (with_reducible show _ ≤ _) | (with_reducible show _ = _) | (with_reducible show _ ∨ _) | (with_reducible show _ < _) | (with_reducible show G _ _ _ _))); (refine Exists.intro _ (And.intro rfl (And.intro rfl (And.intro ?_ ?_)))) <;> with_reducible assumption)
            | ((with_reducible show G 18 _ _ _); exact hG.2 18 _ [(0, vr 54), (1, vr 19), (2, vi _)] _ _ rfl (ih18 _ _ (by assumption) (by assumption) (by refine ⟨by first | omega | (refine ⟨?_, ?_⟩ <;> (first | omega | (simp (disch := omega) only [w32_id, w64_id]; omega) | (simp (disch := omega) only [w32_id, w64_id] at *; omega) | (simp only [w32, w64] at *; omega) | exact (and32_le (by omega) (by omega)).1 | exact (and32_le (by omega) (by omega)).2 | exact (mulR (by omega) (by omega) (by omega) (by omega)).1 | exact (mulR (by omega) (by omega) (by omega) (by omega)).2 | (subst_vars; simp [upZ] at *; omega) | (subst_vars; simp [upZ] at *; simp only [w32, w64] at *; omega))) | (first | omega | (simp (disch := omega) only [w32_id, w64_id]; omega) | (simp (disch := omega) only [w32_id, w64_id] at *; omega) | (simp only [w32, w64] at *; omega) | exact (and32_le (by omega) (by omega)).1 | exact (and32_le (by omega) (by omega)).2 | exact (mulR (by omega) (by omega) (by omega) (by omega)).1 | exact (mulR (by omega) (by omega) (by omega) (by omega)).2 | (subst_vars; simp [upZ] at *; omega) | (subst_vars; simp [upZ] at *; simp only [w32, w64] at *; omega)), trivial⟩) (by first | omega | (simp (disch := omega) only [w32_id, w64_id]; omega) | (simp (disch := omega) only [w32_id, w64_id] at *; omega) | (simp only [w32, w64] at *; omega) | exact (and32_le (by omega) (by omega)).1 | exact (and32_le (by omega) (by omega)).2 | exact (mulR (by omega) (by omega) (by omega) (by omega)).1 | exact (mulR (by omega) (by omega) (by omega) (by omega)).2 | (subst_vars; simp [upZ] at *; omega) | (subst_vars; simp [upZ] at *; simp only [w32, w64] at *; omega))))
            | ((with_reducible show G 103 _ _ _); exact hG.2 103 _ [(0, vr 54), (1, vr 19), (2, vi _)] _ _ rfl (ih103 _ _ (by assumption) (by assumption) (by refine ⟨by first | omega | (refine ⟨?_, ?_⟩ <;> (first | omega | (simp (disch := omega) only [w32_id, w64_id]; omega) | (simp (disch := omega) only [w32_id, w64_id] at *; omega) | (simp only [w32, w64] at *; omega) | exact (and32_le (by omega) (by omega)).1 | exact (and32_le (by omega) (by omega)).2 | exact (mulR (by omega) (by omega) (by omega) (by omega)).1 | exact (mulR (by omega) (by omega) (by omega) (by omega)).2 | (subst_vars; simp [upZ] at *; omega) | (subst_vars; simp [upZ] at *; simp only [w32, w64] at *; omega))) | (first | omega | (simp (disch := omega) only [w32_id, w64_id]; omega) | (simp (disch := omega) only [w32_id, w64_id] at *; omega) | (simp only [w32, w64] at *; omega) | exact (and32_le (by omega) (by omega)).1 | exact (and32_le (by omega) (by omega)).2 | exact (mulR (by omega) (by omega) (by omega) (by omega)).1 | exact (mulR (by omega) (by omega) (by omega) (by omega)).2 | (subst_vars; simp [upZ] at *; omega) | (subst_vars; simp [upZ] at *; simp only [w32, w64] at *; omega)), trivial⟩) (by first | omega | (simp (disch := omega) only [w32_id, w64_id]; omega) | (simp (disch := omega) only [w32_id, w64_id] at *; omega) | (simp only [w32, w64] at *; omega) | exact (and32_le (by omega) (by omega)).1 | exact (and32_le (by omega) (by omega)).2 | exact (mulR (by omega) (by omega) (by omega) (by omega)).1 | exact (mulR (by omega) (by omega) (by omega) (by omega)).2 | (subst_vars; simp [upZ] at *; omega) | (subst_vars; simp [upZ] at *; simp only [w32, w64] at *; omega))))
            | ((fail_if_success (first | (with_reducible show _ ≤ _) | (with_reducible show _ = _) | (with_reducible show _ ∨ _) | (with_reducible show _ < _) | (with_reducible show G _ _ _ _))); exact Exists.intro _ (Exists.intro _ ⟨rfl, rfl, by assumption, by assumption, by (first | omega | (simp (disch := omega) only [w32_id, w64_id]; omega) | (simp (disch := omega) only [w32_id, w64_id] at *; omega) | (simp only [w32, w64] at *; omega) | exact (and32_le (by omega) (by omega)).1 | exact (and32_le (by omega) (by omega)).2 | exact (mulR (by omega) (by omega) (by omega) (by omega)).1 | exact (mulR (by omega) (by omega) (by omega) (by omega)).2 | (subst_vars; simp [upZ] at *; omega) | (subst_vars; simp [upZ] at *; simp only [w32, w64] at *; omega)), by (first | omega | (simp (disch := omega) only [w32_id, w64_id]; omega) | (simp (disch := omega) only [w32_id, w64_id] at *; omega) | (simp only [w32, w64] at *; omega) | exact (and32_le (by omega) (by omega)).1 | exact (and32_le (by omega) (by omega)).2 | exact (mulR (by omega) (by omega) (by omega) (by omega)).1 | exact (mulR (by omega) (by omega) (by omega) (by omega)).2 | (subst_vars; simp [upZ] at *; omega) | (subst_vars; simp [upZ] at *; simp only [w32, w64] at *; omega))⟩))
            | ((fail_if_success (first | (with_reducible show _ ≤ _) | (with_reducible show _ = _) | (with_reducible show _ ∨ _) | (with_reducible show _ < _) | (with_reducible show G _ _ _ _))); exact Exists.intro _ (Exists.intro _ ⟨rfl, rfl, by assumption, by assumption⟩))
            | ((fail_if_success (first | (with_reducible show _ ≤ _) | (with_reducible show _ = _) | (with_reducible show _ ∨ _) | (with_reducible show _ < _) | (with_reducible show G _ _ _ _))); exact Exists.intro _ ⟨rfl, rfl, by assumption, by assumption⟩)
            | ((fail_if_success (first | (with_reducible show _ ≤ _) | (with_reducible show _ = _) | (with_reducible show _ ∨ _) | (with_reducible show _ < _) | (with_reducible show G _ _ _ _))); exact Or.inl (Exists.intro _ ⟨rfl, rfl, by assumption, by assumption⟩))
            | ((fail_if_success (first | (with_reducible show _ ≤ _) | (with_reducible show _ = _) | (with_reducible show _ ∨ _) | (with_reducible show _ < _) | (with_reducible show G _ _ _ _))); exact Or.inr (Exists.intro _ ⟨rfl, rfl, by assumption, by assumption⟩))
            | omega
            | rfl
            | exact trivial
            | decide
            | (show (0 : Int) < _; omega)
            | (show (0 : Int) < _; simp only [w64] at *; omega)
            | (simp only [w32, w64] at *; omega)
            | (first | omega | (simp (disch := omega) only [w32_id, w64_id]; omega) | (simp (disch := omega) only [w32_id, w64_id] at *; omega) | (simp only [w32, w64] at *; omega) | exact (and32_le (by omega) (by omega)).1 | exact (and32_le (by omega) (by omega)).2 | exact (mulR (by omega) (by omega) (by omega) (by omega)).1 | exact (mulR (by omega) (by omega) (by omega) (by omega)).2 | (subst_vars; simp [upZ] at *; omega) | (subst_vars; simp [upZ] at *; simp only [w32, w64] at *; omega))
            | skip
    refine wq_run hG n R0 [18, 103] 900 _ _ _ _ ?_
    repeat' (first
        | with_reducible rfl
        | refine And.intro ?_ ?_
        | with_reducible exact True.intro
        | ((with_reducible show _ = true); rfl)
        | ((with_reducible show recvG _ _); rfl)
        | ((with_reducible show CI _); first | with_reducible assumption | assumption)
        | (fail_if_success (first | (with_reducible show _ ≤ _) | (with_reducible show _ = _) | (with_reducible show _ ∨ _) | (with_reducible show _ < _) | (with_reducible show G _ _ _ _))
           first
           | show G _ _ _ _
           | (intro (Z2 : ZT) hZ2; have hZ3 : Z' = Z2 := hZ2.symm; subst hZ3)
           | (intro (Z2 : ZT) hZ2; have hZ3 : Z1 = Z2 := hZ2.symm; subst hZ3)
           | (intro (Z2 : ZT) hZ2; have hZ3 : Z = Z2 := hZ2.symm; subst hZ3)
           | (refine ld_bnd (by first | with_reducible assumption | assumption) rfl ?_; intro _ _ _ _)
           | (refine st_bnd (by first | with_reducible assumption | assumption) (by first | with_reducible assumption | assumption) (by decide) (fun lo hi hb => by first | (cases hb; done) | (cases hb; constructor <;> (first | omega | (simp (disch := omega) only [w32_id, w64_id]; omega) | (simp (disch := omega) only [w32_id, w64_id] at *; omega) | (simp only [w32, w64] at *; omega) | exact (and32_le (by omega) (by omega)).1 | exact (and32_le (by omega) (by omega)).2 | exact (mulR (by omega) (by omega) (by omega) (by omega)).1 | exact (mulR (by omega) (by omega) (by omega) (by omega)).2 | (subst_vars; simp [upZ] at *; omega) | (subst_vars; simp [upZ] at *; simp only [w32, w64] at *; omega)))) ?_; intro Z' _ _ _)
           | (intro (r : Option PV) σ' hq
              first
              | (obtain ⟨rfl, rfl⟩ := hq)
              | (obtain ⟨Z', x, rfl, rfl, hI2, hk2, hl2, hu2⟩ := hq; have hk3 := keeps_to (by first | with_reducible assumption | assumption) (by rfl) hk2; clear hk2)
              | (obtain ⟨Z', x, rfl, rfl, hI2, hk2⟩ := hq; have hk3 := keeps_to (by first | with_reducible assumption | assumption) (by rfl) hk2; clear hk2)
              | (rcases hq with ⟨Z', rfl, rfl, hI2, hk2⟩ | ⟨Z', rfl, rfl, hI2, hk2⟩ <;> (have hk3 := keeps_to (by first | with_reducible assumption | assumption) (by rfl) hk2; clear hk2))
              | (obtain ⟨Z', rfl, rfl, hI2, hk2⟩ := hq; have hk3 := keeps_to (by first | with_reducible assumption | assumption) (by rfl) hk2; clear hk2))
           | (intro hc; (try simp only [cmp3_c] at hc); simp only [cmpI] at hc)
           | (show CI _; assumption)
           | intro (_ : Int)
           | intro (Z' : ZT)
           | intro (_ : CI _)
           | intro (_ : keeps _ _ _)
           | intro (_ : _ ≤ _)
           | intro (_ : _ = _)
           | intro (_ : _ < _)
           | intro (_ : _ ∨ _)))
    all_goals (try obtain ⟨lp18, lp103⟩ := loop 1000000)
    all_goals first
      | with_reducible rfl
      | ((with_reducible show _ = _); rfl)
      | ((with_reducible show recvG _ _); rfl)
      | with_reducible exact trivial
      | ((fail_if_success (first | (with_reducible show _ ≤ _) | (with_reducible show _ = _) | (with_reducible show _ ∨ _) | (with_reducible show _ < _) | (with_reducible show G _ _ _ _))); (refine Exists.intro _ (And.intro rfl (And.intro rfl (And.intro ?_ ?_)))) <;> with_reducible assumption)
      | ((with_reducible show G 18 _ _ _); exact hG.2 18 _ [(0, vr 54), (1, vr 19), (2, vi _)] _ _ rfl (lp18 _ _ (by assumption) (by assumption) (by refine ⟨by first | omega | (refine ⟨?_, ?_⟩ <;> (first | omega | (simp (disch := omega) only [w32_id, w64_id]; omega) | (simp (disch := omega) only [w32_id, w64_id] at *; omega) | (simp only [w32, w64] at *; omega) | exact (and32_le (by omega) (by omega)).1 | exact (and32_le (by omega) (by omega)).2 | exact (mulR (by omega) (by omega) (by omega) (by omega)).1 | exact (mulR (by omega) (by omega) (by omega) (by omega)).2 | (subst_vars; simp [upZ] at *; omega) | (subst_vars; simp [upZ] at *; simp only [w32, w64] at *; omega))) | (first | omega | (simp (disch := omega) only [w32_id, w64_id]; omega) | (simp (disch := omega) only [w32_id, w64_id] at *; omega) | (simp only [w32, w64] at *; omega) | exact (and32_le (by omega) (by omega)).1 | exact (and32_le (by omega) (by omega)).2 | exact (mulR (by omega) (by omega) (by omega) (by omega)).1 | exact (mulR (by omega) (by omega) (by omega) (by omega)).2 | (subst_vars; simp [upZ] at *; omega) | (subst_vars; simp [upZ] at *; simp only [w32, w64] at *; omega)), trivial⟩) (by first | omega | (simp (disch := omega) only [w32_id, w64_id]; omega) | (simp (disch := omega) only [w32_id, w64_id] at *; omega) | (simp only [w32, w64] at *; omega) | exact (and32_le (by omega) (by omega)).1 | exact (and32_le (by omega) (by omega)).2 | exact (mulR (by omega) (by omega) (by omega) (by omega)).1 | exact (mulR (by omega) (by omega) (by omega) (by omega)).2 | (subst_vars; simp [upZ] at *; omega) | (subst_vars; simp [upZ] at *; simp only [w32, w64] at *; omega))))
      | ((with_reducible show G 103 _ _ _); exact hG.2 103 _ [(0, vr 54), (1, vr 19), (2, vi _)] _ _ rfl (lp103 _ _ (by assumption) (by assumption) (by refine ⟨by first | omega | (refine ⟨?_, ?_⟩ <;> (first | omega | (simp (disch := omega) only [w32_id, w64_id]; omega) | (simp (disch := omega) only [w32_id, w64_id] at *; omega) | (simp only [w32, w64] at *; omega) | exact (and32_le (by omega) (by omega)).1 | exact (and32_le (by omega) (by omega)).2 | exact (mulR (by omega) (by omega) (by omega) (by omega)).1 | exact (mulR (by omega) (by omega) (by omega) (by omega)).2 | (subst_vars; simp [upZ] at *; omega) | (subst_vars; simp [upZ] at *; simp only [w32, w64] at *; omega))) | (first | omega | (simp (disch := omega) only [w32_id, w64_id]; omega) | (simp (disch := omega) only [w32_id, w64_id] at *; omega) | (simp only [w32, w64] at *; omega) | exact (and32_le (by omega) (by omega)).1 | exact (and32_le (by omega) (by omega)).2 | exact (mulR (by omega) (by omega) (by omega) (by omega)).1 | exact (mulR (by omega) (by omega) (by omega) (by omega)).2 | (subst_vars; simp [upZ] at *; omega) | (subst_vars; simp [upZ] at *; simp only [w32, w64] at *; omega)), trivial⟩) (by first | omega | (simp (disch := omega) only [w32_id, w64_id]; omega) | (simp (disch := omega) only [w32_id, w64_id] at *; omega) | (simp only [w32, w64] at *; omega) | exact (and32_le (by omega) (by omega)).1 | exact (and32_le (by omega) (by omega)).2 | exact (mulR (by omega) (by omega) (by omega) (by omega)).1 | exact (mulR (by omega) (by omega) (by omega) (by omega)).2 | (subst_vars; simp [upZ] at *; omega) | (subst_vars; simp [upZ] at *; simp only [w32, w64] at *; omega))))
      | ((fail_if_success (first | (with_reducible show _ ≤ _) | (with_reducible show _ = _) | (with_reducible show _ ∨ _) | (with_reducible show _ < _) | (with_reducible show G _ _ _ _))); exact Exists.intro _ (Exists.intro _ ⟨rfl, rfl, by assumption, by assumption, by (first | omega | (simp (disch := omega) only [w32_id, w64_id]; omega) | (simp (disch := omega) only [w32_id, w64_id] at *; omega) | (simp only [w32, w64] at *; omega) | exact (and32_le (by omega) (by omega)).1 | exact (and32_le (by omega) (by omega)).2 | exact (mulR (by omega) (by omega) (by omega) (by omega)).1 | exact (mulR (by omega) (by omega) (by omega) (by omega)).2 | (subst_vars; simp [upZ] at *; omega) | (subst_vars; simp [upZ] at *; simp only [w32, w64] at *; omega)), by (first | omega | (simp (disch := omega) only [w32_id, w64_id]; omega) | (simp (disch := omega) only [w32_id, w64_id] at *; omega) | (simp only [w32, w64] at *; omega) | exact (and32_le (by omega) (by omega)).1 | exact (and32_le (by omega) (by omega)).2 | exact (mulR (by omega) (by omega) (by omega) (by omega)).1 | exact (mulR (by omega) (by omega) (by omega) (by omega)).2 | (subst_vars; simp [upZ] at *; omega) | (subst_vars; simp [upZ] at *; simp only [w32, w64] at *; omega))⟩))
      | ((fail_if_success (first | (with_reducible show _ ≤ _) | (with_reducible show _ = _) | (with_reducible show _ ∨ _) | (with_reducible show _ < _) | (with_reducible show G _ _ _ _))); exact Exists.intro _ (Exists.intro _ ⟨rfl, rfl, by assumption, by assumption⟩))
      | ((fail_if_success (first | (with_reducible show _ ≤ _) | (with_reducible show _ = _) | (with_reducible show _ ∨ _) | (with_reducible show _ < _) | (with_reducible show G _ _ _ _))); exact Exists.intro _ ⟨rfl, rfl, by assumption, by assumption⟩)
      | ((fail_if_success (first | (with_reducible show _ ≤ _) | (with_reducible show _ = _) | (with_reducible show _ ∨ _) | (with_reducible show _ < _) | (with_reducible show G _ _ _ _))); exact Or.inl (Exists.intro _ ⟨rfl, rfl, by assumption, by assumption⟩))
      | ((fail_if_success (first | (with_reducible show _ ≤ _) | (with_reducible show _ = _) | (with_reducible show _ ∨ _) | (with_reducible show _ < _) | (with_reducible show G _ _ _ _))); exact Or.inr (Exists.intro _ ⟨rfl, rfl, by assumption, by assumption⟩))
      | omega
      | rfl
      | exact trivial
      | decide
      | (show (0 : Int) < _; omega)
      | (show (0 : Int) < _; simp only [w64] at *; omega)
      | (simp only [w32, w64] at *; omega)
      | (first | omega | (simp (disch := omega) only [w32_id, w64_id]; omega) | (simp (disch := omega) only [w32_id, w64_id] at *; omega) | (simp only [w32, w64] at *; omega) | exact (and32_le (by omega) (by omega)).1 | exact (and32_le (by omega) (by omega)).2 | exact (mulR (by omega) (by omega) (by omega) (by omega)).1 | exact (mulR (by omega) (by omega) (by omega) (by omega)).2 | (subst_vars; simp [upZ] at *; omega) | (subst_vars; simp [upZ] at *; simp only [w32, w64] at *; omega))
      | skip
def s_X7_copyFrom : Sp := wspV 2 7 (fun as Z => match as with
    | [.inr (.inr a0), .inr (.inr a1)] => (((a0 = 18 ∧ a1 = 36) ∨ (a0 = 18 ∧ a1 = 53) ∨ (a0 = 36 ∧ a1 = 18) ∨ (a0 = 53 ∧ a1 = 18))) ∧ (True) ∧ True
    | _ => False) (fun as => match as with
    | [.inr (.inr a0), .inr (.inr a1)] => [a0, a0 + 1, a0 + 2, a0 + 3, a0 + 4, a0 + 5, a0 + 6, a0 + 7, a0 + 8, a0 + 9, a0 + 10, a0 + 11, a0 + 12, a0 + 13, a0 + 14, a0 + 15, a0 + 16]
    | _ => [])
set_option maxRecDepth 100000 in
set_option maxHeartbeats 40000000 in
theorem c_X7_copyFrom {l : Launch} {D : va_G} {cA : Nat → ClassId} : PM l D cA yX7_copyFrom cX7_copyFrom 3 none 1 22 s_X7_copyFrom := by
  refine of_X7_copyFrom (c_X5_takeAll) ⟨rfl, rfl⟩ (fun as σ hwf hao hpre => ?_)
  obtain ⟨n, Z, R⟩ := σ
  obtain ⟨hR, hI, hpre⟩ := hpre
  obtain rfl : R = R0 := hR
  rcases as with _ | ⟨x | x | a0, _ | ⟨x | x | a1, _ | ⟨v, t⟩⟩⟩ <;> first | exact (hpre : False).elim | skip
  obtain ⟨h0, h1, -⟩ := hpre
  have hk : keeps ([a0, a0 + 1, a0 + 2, a0 + 3, a0 + 4, a0 + 5, a0 + 6, a0 + 7, a0 + 8, a0 + 9, a0 + 10, a0 + 11, a0 + 12, a0 + 13, a0 + 14, a0 + 15, a0 + 16]) Z Z := keeps_refl
  refine ⟨Nat.le_of_ble_eq_true rfl, fun G hG => ?_⟩
  clear hao hwf
  rcases h0 with ⟨rfl, rfl⟩ | ⟨rfl, rfl⟩ | ⟨rfl, rfl⟩ | ⟨rfl, rfl⟩
  · have loop : ∀ fuel : Nat, (∀ (Z1 : ZT) (v2 : Int), CI Z1 → keeps ([18, 18 + 1, 18 + 2, 18 + 3, 18 + 4, 18 + 5, 18 + 6, 18 + 7, 18 + 8, 18 + 9, 18 + 10, 18 + 11, 18 + 12, 18 + 13, 18 + 14, 18 + 15, 18 + 16]) Z Z1 → ((0 ≤ v2 ∧ v2 ≤ 144) ∧ True) → 1000 - v2 ≤ (fuel : Int) → G 13 [(0, vr 18), (1, vr 36), (2, vi v2)] [] (n, Z1, R0)) ∧ (∀ (Z1 : ZT) (v2 : Int), CI Z1 → keeps ([18, 18 + 1, 18 + 2, 18 + 3, 18 + 4, 18 + 5, 18 + 6, 18 + 7, 18 + 8, 18 + 9, 18 + 10, 18 + 11, 18 + 12, 18 + 13, 18 + 14, 18 + 15, 18 + 16]) Z Z1 → ((0 ≤ v2 ∧ v2 ≤ 4) ∧ True) → 500 - v2 ≤ (fuel : Int) → G 42 [(0, vr 18), (1, vr 36), (2, vi v2)] [] (n, Z1, R0)) ∧ (∀ (Z1 : ZT) (v2 : Int), CI Z1 → keeps ([18, 18 + 1, 18 + 2, 18 + 3, 18 + 4, 18 + 5, 18 + 6, 18 + 7, 18 + 8, 18 + 9, 18 + 10, 18 + 11, 18 + 12, 18 + 13, 18 + 14, 18 + 15, 18 + 16]) Z Z1 → ((0 ≤ v2 ∧ v2 ≤ 12) ∧ True) → 13 - v2 ≤ (fuel : Int) → G 83 [(0, vr 18), (1, vr 36), (2, vi v2)] [] (n, Z1, R0)) := by
      intro fuel
      induction fuel with
      | zero => exact ⟨(by intros; omega), (by intros; omega), (by intros; omega)⟩
      | succ fuel ih =>
        obtain ⟨ih13, ih42, ih83⟩ := ih
        refine ⟨?_, ?_, ?_⟩
        · intro Z1 v2 hI1 hk1 hv hm
          obtain ⟨w0, -⟩ := hv
          clear hk hI
          refine wq_run hG n R0 [13, 42, 83] 900 _ _ _ _ ?_
          repeat' (first
              | with_reducible rfl
              | refine And.intro ?_ ?_
              | with_reducible exact True.intro
              | ((with_reducible show _ = true); rfl)
              | ((with_reducible show recvG _ _); rfl)
              | ((with_reducible show CI _); first | with_reducible assumption | assumption)
              | (fail_if_success (first | (with_reducible show _ ≤ _) | (with_reducible show _ = _) | (with_reducible show _ ∨ _) | (with_reducible show _ < _) | (with_reducible show G _ _ _ _))
                 first
                 | show G _ _ _ _
                 | (intro (Z2 : ZT) hZ2; have hZ3 : Z' = Z2 := hZ2.symm; subst hZ3)
                 | (intro (Z2 : ZT) hZ2; have hZ3 : Z1 = Z2 := hZ2.symm; subst hZ3)
                 | (intro (Z2 : ZT) hZ2; have hZ3 : Z = Z2 := hZ2.symm; subst hZ3)
                 | (refine ld_bnd (by first | with_reducible assumption | assumption) rfl ?_; intro _ _ _ _)
                 | (refine st_bnd (by first | with_reducible assumption | assumption) (by first | with_reducible assumption | assumption) (by decide) (fun lo hi hb => by first | (cases hb; done) | (cases hb; constructor <;> (first | omega | (simp (disch := omega) only [w32_id, w64_id]; omega) | (simp (disch := omega) only [w32_id, w64_id] at *; omega) | (simp only [w32, w64] at *; omega) | exact (and32_le (by omega) (by omega)).1 | exact (and32_le (by omega) (by omega)).2 | exact (mulR (by omega) (by omega) (by omega) (by omega)).1 | exact (mulR (by omega) (by omega) (by omega) (by omega)).2 | (subst_vars; simp [upZ] at *; omega) | (subst_vars; simp [upZ] at *; simp only [w32, w64] at *; omega)))) ?_; intro Z' _ _ _)
                 | (intro (r : Option PV) σ' hq
                    first
                    | (obtain ⟨rfl, rfl⟩ := hq)
                    | (obtain ⟨Z', x, rfl, rfl, hI2, hk2, hl2, hu2⟩ := hq; have hk3 := keeps_to (by first | with_reducible assumption | assumption) (by rfl) hk2; clear hk2)
                    | (obtain ⟨Z', x, rfl, rfl, hI2, hk2⟩ := hq; have hk3 := keeps_to (by first | with_reducible assumption | assumption) (by rfl) hk2; clear hk2)
                    | (rcases hq with ⟨Z', rfl, rfl, hI2, hk2⟩ | ⟨Z', rfl, rfl, hI2, hk2⟩ <;> (have hk3 := keeps_to (by first | with_reducible assumption | assumption) (by rfl) hk2; clear hk2))
                    | (obtain ⟨Z', rfl, rfl, hI2, hk2⟩ := hq; have hk3 := keeps_to (by first | with_reducible assumption | assumption) (by rfl) hk2; clear hk2))
                 | (intro hc; (try simp only [cmp3_c] at hc); simp only [cmpI] at hc)
                 | (show CI _; assumption)
                 | intro (_ : Int)
                 | intro (Z' : ZT)
                 | intro (_ : CI _)
                 | intro (_ : keeps _ _ _)
                 | intro (_ : _ ≤ _)
                 | intro (_ : _ = _)
                 | intro (_ : _ < _)
                 | intro (_ : _ ∨ _)))
          all_goals first
            | with_reducible rfl
            | ((with_reducible show _ = _); rfl)
            | ((with_reducible show recvG _ _); rfl)
            | with_reducible exact trivial
            | ((fail_if_success (first | (with_reducible show _ ≤ _) | (with_reducible show _ = _) | (with_reducible show _ ∨ _) | (with_reducible show _ < _) | (with_reducible show G _ _ _ _))); (refine Exists.intro _ (And.intro rfl (And.intro rfl (And.intro ?_ ?_)))) <;> with_reducible assumption)
            | ((with_reducible show G 13 _ _ _); exact hG.2 13 _ [(0, vr 18), (1, vr 36), (2, vi _)] _ _ rfl (ih13 _ _ (by assumption) (by assumption) (by refine ⟨by first | omega | (refine ⟨?_, ?_⟩ <;> (first | omega | (simp (disch := omega) only [w32_id, w64_id]; omega) | (simp (disch := omega) only [w32_id, w64_id] at *; omega) | (simp only [w32, w64] at *; omega) | exact (and32_le (by omega) (by omega)).1 | exact (and32_le (by omega) (by omega)).2 | exact (mulR (by omega) (by omega) (by omega) (by omega)).1 | exact (mulR (by omega) (by omega) (by omega) (by omega)).2 | (subst_vars; simp [upZ] at *; omega) | (subst_vars; simp [upZ] at *; simp only [w32, w64] at *; omega))) | (first | omega | (simp (disch := omega) only [w32_id, w64_id]; omega) | (simp (disch := omega) only [w32_id, w64_id] at *; omega) | (simp only [w32, w64] at *; omega) | exact (and32_le (by omega) (by omega)).1 | exact (and32_le (by omega) (by omega)).2 | exact (mulR (by omega) (by omega) (by omega) (by omega)).1 | exact (mulR (by omega) (by omega) (by omega) (by omega)).2 | (subst_vars; simp [upZ] at *; omega) | (subst_vars; simp [upZ] at *; simp only [w32, w64] at *; omega)), trivial⟩) (by first | omega | (simp (disch := omega) only [w32_id, w64_id]; omega) | (simp (disch := omega) only [w32_id, w64_id] at *; omega) | (simp only [w32, w64] at *; omega) | exact (and32_le (by omega) (by omega)).1 | exact (and32_le (by omega) (by omega)).2 | exact (mulR (by omega) (by omega) (by omega) (by omega)).1 | exact (mulR (by omega) (by omega) (by omega) (by omega)).2 | (subst_vars; simp [upZ] at *; omega) | (subst_vars; simp [upZ] at *; simp only [w32, w64] at *; omega))))
            | ((with_reducible show G 42 _ _ _); exact hG.2 42 _ [(0, vr 18), (1, vr 36), (2, vi _)] _ _ rfl (ih42 _ _ (by assumption) (by assumption) (by refine ⟨by first | omega | (refine ⟨?_, ?_⟩ <;> (first | omega | (simp (disch := omega) only [w32_id, w64_id]; omega) | (simp (disch := omega) only [w32_id, w64_id] at *; omega) | (simp only [w32, w64] at *; omega) | exact (and32_le (by omega) (by omega)).1 | exact (and32_le (by omega) (by omega)).2 | exact (mulR (by omega) (by omega) (by omega) (by omega)).1 | exact (mulR (by omega) (by omega) (by omega) (by omega)).2 | (subst_vars; simp [upZ] at *; omega) | (subst_vars; simp [upZ] at *; simp only [w32, w64] at *; omega))) | (first | omega | (simp (disch := omega) only [w32_id, w64_id]; omega) | (simp (disch := omega) only [w32_id, w64_id] at *; omega) | (simp only [w32, w64] at *; omega) | exact (and32_le (by omega) (by omega)).1 | exact (and32_le (by omega) (by omega)).2 | exact (mulR (by omega) (by omega) (by omega) (by omega)).1 | exact (mulR (by omega) (by omega) (by omega) (by omega)).2 | (subst_vars; simp [upZ] at *; omega) | (subst_vars; simp [upZ] at *; simp only [w32, w64] at *; omega)), trivial⟩) (by first | omega | (simp (disch := omega) only [w32_id, w64_id]; omega) | (simp (disch := omega) only [w32_id, w64_id] at *; omega) | (simp only [w32, w64] at *; omega) | exact (and32_le (by omega) (by omega)).1 | exact (and32_le (by omega) (by omega)).2 | exact (mulR (by omega) (by omega) (by omega) (by omega)).1 | exact (mulR (by omega) (by omega) (by omega) (by omega)).2 | (subst_vars; simp [upZ] at *; omega) | (subst_vars; simp [upZ] at *; simp only [w32, w64] at *; omega))))
            | ((with_reducible show G 83 _ _ _); exact hG.2 83 _ [(0, vr 18), (1, vr 36), (2, vi _)] _ _ rfl (ih83 _ _ (by assumption) (by assumption) (by refine ⟨by first | omega | (refine ⟨?_, ?_⟩ <;> (first | omega | (simp (disch := omega) only [w32_id, w64_id]; omega) | (simp (disch := omega) only [w32_id, w64_id] at *; omega) | (simp only [w32, w64] at *; omega) | exact (and32_le (by omega) (by omega)).1 | exact (and32_le (by omega) (by omega)).2 | exact (mulR (by omega) (by omega) (by omega) (by omega)).1 | exact (mulR (by omega) (by omega) (by omega) (by omega)).2 | (subst_vars; simp [upZ] at *; omega) | (subst_vars; simp [upZ] at *; simp only [w32, w64] at *; omega))) | (first | omega | (simp (disch := omega) only [w32_id, w64_id]; omega) | (simp (disch := omega) only [w32_id, w64_id] at *; omega) | (simp only [w32, w64] at *; omega) | exact (and32_le (by omega) (by omega)).1 | exact (and32_le (by omega) (by omega)).2 | exact (mulR (by omega) (by omega) (by omega) (by omega)).1 | exact (mulR (by omega) (by omega) (by omega) (by omega)).2 | (subst_vars; simp [upZ] at *; omega) | (subst_vars; simp [upZ] at *; simp only [w32, w64] at *; omega)), trivial⟩) (by first | omega | (simp (disch := omega) only [w32_id, w64_id]; omega) | (simp (disch := omega) only [w32_id, w64_id] at *; omega) | (simp only [w32, w64] at *; omega) | exact (and32_le (by omega) (by omega)).1 | exact (and32_le (by omega) (by omega)).2 | exact (mulR (by omega) (by omega) (by omega) (by omega)).1 | exact (mulR (by omega) (by omega) (by omega) (by omega)).2 | (subst_vars; simp [upZ] at *; omega) | (subst_vars; simp [upZ] at *; simp only [w32, w64] at *; omega))))
            | ((fail_if_success (first | (with_reducible show _ ≤ _) | (with_reducible show _ = _) | (with_reducible show _ ∨ _) | (with_reducible show _ < _) | (with_reducible show G _ _ _ _))); exact Exists.intro _ (Exists.intro _ ⟨rfl, rfl, by assumption, by assumption, by (first | omega | (simp (disch := omega) only [w32_id, w64_id]; omega) | (simp (disch := omega) only [w32_id, w64_id] at *; omega) | (simp only [w32, w64] at *; omega) | exact (and32_le (by omega) (by omega)).1 | exact (and32_le (by omega) (by omega)).2 | exact (mulR (by omega) (by omega) (by omega) (by omega)).1 | exact (mulR (by omega) (by omega) (by omega) (by omega)).2 | (subst_vars; simp [upZ] at *; omega) | (subst_vars; simp [upZ] at *; simp only [w32, w64] at *; omega)), by (first | omega | (simp (disch := omega) only [w32_id, w64_id]; omega) | (simp (disch := omega) only [w32_id, w64_id] at *; omega) | (simp only [w32, w64] at *; omega) | exact (and32_le (by omega) (by omega)).1 | exact (and32_le (by omega) (by omega)).2 | exact (mulR (by omega) (by omega) (by omega) (by omega)).1 | exact (mulR (by omega) (by omega) (by omega) (by omega)).2 | (subst_vars; simp [upZ] at *; omega) | (subst_vars; simp [upZ] at *; simp only [w32, w64] at *; omega))⟩))
            | ((fail_if_success (first | (with_reducible show _ ≤ _) | (with_reducible show _ = _) | (with_reducible show _ ∨ _) | (with_reducible show _ < _) | (with_reducible show G _ _ _ _))); exact Exists.intro _ (Exists.intro _ ⟨rfl, rfl, by assumption, by assumption⟩))
            | ((fail_if_success (first | (with_reducible show _ ≤ _) | (with_reducible show _ = _) | (with_reducible show _ ∨ _) | (with_reducible show _ < _) | (with_reducible show G _ _ _ _))); exact Exists.intro _ ⟨rfl, rfl, by assumption, by assumption⟩)
            | ((fail_if_success (first | (with_reducible show _ ≤ _) | (with_reducible show _ = _) | (with_reducible show _ ∨ _) | (with_reducible show _ < _) | (with_reducible show G _ _ _ _))); exact Or.inl (Exists.intro _ ⟨rfl, rfl, by assumption, by assumption⟩))
            | ((fail_if_success (first | (with_reducible show _ ≤ _) | (with_reducible show _ = _) | (with_reducible show _ ∨ _) | (with_reducible show _ < _) | (with_reducible show G _ _ _ _))); exact Or.inr (Exists.intro _ ⟨rfl, rfl, by assumption, by assumption⟩))
            | omega
            | rfl
            | exact trivial
            | decide
            | (show (0 : Int) < _; omega)
            | (show (0 : Int) < _; simp only [w64] at *; omega)
            | (simp only [w32, w64] at *; omega)
            | (first | omega | (simp (disch := omega) only [w32_id, w64_id]; omega) | (simp (disch := omega) only [w32_id, w64_id] at *; omega) | (simp only [w32, w64] at *; omega) | exact (and32_le (by omega) (by omega)).1 | exact (and32_le (by omega) (by omega)).2 | exact (mulR (by omega) (by omega) (by omega) (by omega)).1 | exact (mulR (by omega) (by omega) (by omega) (by omega)).2 | (subst_vars; simp [upZ] at *; omega) | (subst_vars; simp [upZ] at *; simp only [w32, w64] at *; omega))
            | skip
        · intro Z1 v2 hI1 hk1 hv hm
          obtain ⟨w0, -⟩ := hv
          clear hk hI
          refine wq_run hG n R0 [13, 42, 83] 900 _ _ _ _ ?_
          repeat' (first
              | with_reducible rfl
              | refine And.intro ?_ ?_
              | with_reducible exact True.intro
              | ((with_reducible show _ = true); rfl)
              | ((with_reducible show recvG _ _); rfl)
              | ((with_reducible show CI _); first | with_reducible assumption | assumption)
              | (fail_if_success (first | (with_reducible show _ ≤ _) | (with_reducible show _ = _) | (with_reducible show _ ∨ _) | (with_reducible show _ < _) | (with_reducible show G _ _ _ _))
                 first
                 | show G _ _ _ _
                 | (intro (Z2 : ZT) hZ2; have hZ3 : Z' = Z2 := hZ2.symm; subst hZ3)
                 | (intro (Z2 : ZT) hZ2; have hZ3 : Z1 = Z2 := hZ2.symm; subst hZ3)
                 | (intro (Z2 : ZT) hZ2; have hZ3 : Z = Z2 := hZ2.symm; subst hZ3)
                 | (refine ld_bnd (by first | with_reducible assumption | assumption) rfl ?_; intro _ _ _ _)
                 | (refine st_bnd (by first | with_reducible assumption | assumption) (by first | with_reducible assumption | assumption) (by decide) (fun lo hi hb => by first | (cases hb; done) | (cases hb; constructor <;> (first | omega | (simp (disch := omega) only [w32_id, w64_id]; omega) | (simp (disch := omega) only [w32_id, w64_id] at *; omega) | (simp only [w32, w64] at *; omega) | exact (and32_le (by omega) (by omega)).1 | exact (and32_le (by omega) (by omega)).2 | exact (mulR (by omega) (by omega) (by omega) (by omega)).1 | exact (mulR (by omega) (by omega) (by omega) (by omega)).2 | (subst_vars; simp [upZ] at *; omega) | (subst_vars; simp [upZ] at *; simp only [w32, w64] at *; omega)))) ?_; intro Z' _ _ _)
                 | (intro (r : Option PV) σ' hq
                    first
                    | (obtain ⟨rfl, rfl⟩ := hq)
                    | (obtain ⟨Z', x, rfl, rfl, hI2, hk2, hl2, hu2⟩ := hq; have hk3 := keeps_to (by first | with_reducible assumption | assumption) (by rfl) hk2; clear hk2)
                    | (obtain ⟨Z', x, rfl, rfl, hI2, hk2⟩ := hq; have hk3 := keeps_to (by first | with_reducible assumption | assumption) (by rfl) hk2; clear hk2)
                    | (rcases hq with ⟨Z', rfl, rfl, hI2, hk2⟩ | ⟨Z', rfl, rfl, hI2, hk2⟩ <;> (have hk3 := keeps_to (by first | with_reducible assumption | assumption) (by rfl) hk2; clear hk2))
                    | (obtain ⟨Z', rfl, rfl, hI2, hk2⟩ := hq; have hk3 := keeps_to (by first | with_reducible assumption | assumption) (by rfl) hk2; clear hk2))
                 | (intro hc; (try simp only [cmp3_c] at hc); simp only [cmpI] at hc)
                 | (show CI _; assumption)
                 | intro (_ : Int)
                 | intro (Z' : ZT)
                 | intro (_ : CI _)
                 | intro (_ : keeps _ _ _)
                 | intro (_ : _ ≤ _)
                 | intro (_ : _ = _)
                 | intro (_ : _ < _)
                 | intro (_ : _ ∨ _)))
          all_goals first
            | with_reducible rfl
            | ((with_reducible show _ = _); rfl)
            | ((with_reducible show recvG _ _); rfl)
            | with_reducible exact trivial
            | ((fail_if_success (first | (with_reducible show _ ≤ _) | (with_reducible show _ = _) | (with_reducible show _ ∨ _) | (with_reducible show _ < _) | (with_reducible show G _ _ _ _))); (refine Exists.intro _ (And.intro rfl (And.intro rfl (And.intro ?_ ?_)))) <;> with_reducible assumption)
            | ((with_reducible show G 13 _ _ _); exact hG.2 13 _ [(0, vr 18), (1, vr 36), (2, vi _)] _ _ rfl (ih13 _ _ (by assumption) (by assumption) (by refine ⟨by first | omega | (refine ⟨?_, ?_⟩ <;> (first | omega | (simp (disch := omega) only [w32_id, w64_id]; omega) | (simp (disch := omega) only [w32_id, w64_id] at *; omega) | (simp only [w32, w64] at *; omega) | exact (and32_le (by omega) (by omega)).1 | exact (and32_le (by omega) (by omega)).2 | exact (mulR (by omega) (by omega) (by omega) (by omega)).1 | exact (mulR (by omega) (by omega) (by omega) (by omega)).2 | (subst_vars; simp [upZ] at *; omega) | (subst_vars; simp [upZ] at *; simp only [w32, w64] at *; omega))) | (first | omega | (simp (disch := omega) only [w32_id, w64_id]; omega) | (simp (disch := omega) only [w32_id, w64_id] at *; omega) | (simp only [w32, w64] at *; omega) | exact (and32_le (by omega) (by omega)).1 | exact (and32_le (by omega) (by omega)).2 | exact (mulR (by omega) (by omega) (by omega) (by omega)).1 | exact (mulR (by omega) (by omega) (by omega) (by omega)).2 | (subst_vars; simp [upZ] at *; omega) | (subst_vars; simp [upZ] at *; simp only [w32, w64] at *; omega)), trivial⟩) (by first | omega | (simp (disch := omega) only [w32_id, w64_id]; omega) | (simp (disch := omega) only [w32_id, w64_id] at *; omega) | (simp only [w32, w64] at *; omega) | exact (and32_le (by omega) (by omega)).1 | exact (and32_le (by omega) (by omega)).2 | exact (mulR (by omega) (by omega) (by omega) (by omega)).1 | exact (mulR (by omega) (by omega) (by omega) (by omega)).2 | (subst_vars; simp [upZ] at *; omega) | (subst_vars; simp [upZ] at *; simp only [w32, w64] at *; omega))))
            | ((with_reducible show G 42 _ _ _); exact hG.2 42 _ [(0, vr 18), (1, vr 36), (2, vi _)] _ _ rfl (ih42 _ _ (by assumption) (by assumption) (by refine ⟨by first | omega | (refine ⟨?_, ?_⟩ <;> (first | omega | (simp (disch := omega) only [w32_id, w64_id]; omega) | (simp (disch := omega) only [w32_id, w64_id] at *; omega) | (simp only [w32, w64] at *; omega) | exact (and32_le (by omega) (by omega)).1 | exact (and32_le (by omega) (by omega)).2 | exact (mulR (by omega) (by omega) (by omega) (by omega)).1 | exact (mulR (by omega) (by omega) (by omega) (by omega)).2 | (subst_vars; simp [upZ] at *; omega) | (subst_vars; simp [upZ] at *; simp only [w32, w64] at *; omega))) | (first | omega | (simp (disch := omega) only [w32_id, w64_id]; omega) | (simp (disch := omega) only [w32_id, w64_id] at *; omega) | (simp only [w32, w64] at *; omega) | exact (and32_le (by omega) (by omega)).1 | exact (and32_le (by omega) (by omega)).2 | exact (mulR (by omega) (by omega) (by omega) (by omega)).1 | exact (mulR (by omega) (by omega) (by omega) (by omega)).2 | (subst_vars; simp [upZ] at *; omega) | (subst_vars; simp [upZ] at *; simp only [w32, w64] at *; omega)), trivial⟩) (by first | omega | (simp (disch := omega) only [w32_id, w64_id]; omega) | (simp (disch := omega) only [w32_id, w64_id] at *; omega) | (simp only [w32, w64] at *; omega) | exact (and32_le (by omega) (by omega)).1 | exact (and32_le (by omega) (by omega)).2 | exact (mulR (by omega) (by omega) (by omega) (by omega)).1 | exact (mulR (by omega) (by omega) (by omega) (by omega)).2 | (subst_vars; simp [upZ] at *; omega) | (subst_vars; simp [upZ] at *; simp only [w32, w64] at *; omega))))
            | ((with_reducible show G 83 _ _ _); exact hG.2 83 _ [(0, vr 18), (1, vr 36), (2, vi _)] _ _ rfl (ih83 _ _ (by assumption) (by assumption) (by refine ⟨by first | omega | (refine ⟨?_, ?_⟩ <;> (first | omega | (simp (disch := omega) only [w32_id, w64_id]; omega) | (simp (disch := omega) only [w32_id, w64_id] at *; omega) | (simp only [w32, w64] at *; omega) | exact (and32_le (by omega) (by omega)).1 | exact (and32_le (by omega) (by omega)).2 | exact (mulR (by omega) (by omega) (by omega) (by omega)).1 | exact (mulR (by omega) (by omega) (by omega) (by omega)).2 | (subst_vars; simp [upZ] at *; omega) | (subst_vars; simp [upZ] at *; simp only [w32, w64] at *; omega))) | (first | omega | (simp (disch := omega) only [w32_id, w64_id]; omega) | (simp (disch := omega) only [w32_id, w64_id] at *; omega) | (simp only [w32, w64] at *; omega) | exact (and32_le (by omega) (by omega)).1 | exact (and32_le (by omega) (by omega)).2 | exact (mulR (by omega) (by omega) (by omega) (by omega)).1 | exact (mulR (by omega) (by omega) (by omega) (by omega)).2 | (subst_vars; simp [upZ] at *; omega) | (subst_vars; simp [upZ] at *; simp only [w32, w64] at *; omega)), trivial⟩) (by first | omega | (simp (disch := omega) only [w32_id, w64_id]; omega) | (simp (disch := omega) only [w32_id, w64_id] at *; omega) | (simp only [w32, w64] at *; omega) | exact (and32_le (by omega) (by omega)).1 | exact (and32_le (by omega) (by omega)).2 | exact (mulR (by omega) (by omega) (by omega) (by omega)).1 | exact (mulR (by omega) (by omega) (by omega) (by omega)).2 | (subst_vars; simp [upZ] at *; omega) | (subst_vars; simp [upZ] at *; simp only [w32, w64] at *; omega))))
            | ((fail_if_success (first | (with_reducible show _ ≤ _) | (with_reducible show _ = _) | (with_reducible show _ ∨ _) | (with_reducible show _ < _) | (with_reducible show G _ _ _ _))); exact Exists.intro _ (Exists.intro _ ⟨rfl, rfl, by assumption, by assumption, by (first | omega | (simp (disch := omega) only [w32_id, w64_id]; omega) | (simp (disch := omega) only [w32_id, w64_id] at *; omega) | (simp only [w32, w64] at *; omega) | exact (and32_le (by omega) (by omega)).1 | exact (and32_le (by omega) (by omega)).2 | exact (mulR (by omega) (by omega) (by omega) (by omega)).1 | exact (mulR (by omega) (by omega) (by omega) (by omega)).2 | (subst_vars; simp [upZ] at *; omega) | (subst_vars; simp [upZ] at *; simp only [w32, w64] at *; omega)), by (first | omega | (simp (disch := omega) only [w32_id, w64_id]; omega) | (simp (disch := omega) only [w32_id, w64_id] at *; omega) | (simp only [w32, w64] at *; omega) | exact (and32_le (by omega) (by omega)).1 | exact (and32_le (by omega) (by omega)).2 | exact (mulR (by omega) (by omega) (by omega) (by omega)).1 | exact (mulR (by omega) (by omega) (by omega) (by omega)).2 | (subst_vars; simp [upZ] at *; omega) | (subst_vars; simp [upZ] at *; simp only [w32, w64] at *; omega))⟩))
            | ((fail_if_success (first | (with_reducible show _ ≤ _) | (with_reducible show _ = _) | (with_reducible show _ ∨ _) | (with_reducible show _ < _) | (with_reducible show G _ _ _ _))); exact Exists.intro _ (Exists.intro _ ⟨rfl, rfl, by assumption, by assumption⟩))
            | ((fail_if_success (first | (with_reducible show _ ≤ _) | (with_reducible show _ = _) | (with_reducible show _ ∨ _) | (with_reducible show _ < _) | (with_reducible show G _ _ _ _))); exact Exists.intro _ ⟨rfl, rfl, by assumption, by assumption⟩)
            | ((fail_if_success (first | (with_reducible show _ ≤ _) | (with_reducible show _ = _) | (with_reducible show _ ∨ _) | (with_reducible show _ < _) | (with_reducible show G _ _ _ _))); exact Or.inl (Exists.intro _ ⟨rfl, rfl, by assumption, by assumption⟩))
            | ((fail_if_success (first | (with_reducible show _ ≤ _) | (with_reducible show _ = _) | (with_reducible show _ ∨ _) | (with_reducible show _ < _) | (with_reducible show G _ _ _ _))); exact Or.inr (Exists.intro _ ⟨rfl, rfl, by assumption, by assumption⟩))
            | omega
            | rfl
            | exact trivial
            | decide
            | (show (0 : Int) < _; omega)
            | (show (0 : Int) < _; simp only [w64] at *; omega)
            | (simp only [w32, w64] at *; omega)
            | (first | omega | (simp (disch := omega) only [w32_id, w64_id]; omega) | (simp (disch := omega) only [w32_id, w64_id] at *; omega) | (simp only [w32, w64] at *; omega) | exact (and32_le (by omega) (by omega)).1 | exact (and32_le (by omega) (by omega)).2 | exact (mulR (by omega) (by omega) (by omega) (by omega)).1 | exact (mulR (by omega) (by omega) (by omega) (by omega)).2 | (subst_vars; simp [upZ] at *; omega) | (subst_vars; simp [upZ] at *; simp only [w32, w64] at *; omega))
            | skip
        · intro Z1 v2 hI1 hk1 hv hm
          obtain ⟨w0, -⟩ := hv
          clear hk hI
          refine wq_run hG n R0 [13, 42, 83] 900 _ _ _ _ ?_
          repeat' (first
              | with_reducible rfl
              | refine And.intro ?_ ?_
              | with_reducible exact True.intro
              | ((with_reducible show _ = true); rfl)
              | ((with_reducible show recvG _ _); rfl)
              | ((with_reducible show CI _); first | with_reducible assumption | assumption)
              | (fail_if_success (first | (with_reducible show _ ≤ _) | (with_reducible show _ = _) | (with_reducible show _ ∨ _) | (with_reducible show _ < _) | (with_reducible show G _ _ _ _))
                 first
                 | show G _ _ _ _
                 | (intro (Z2 : ZT) hZ2; have hZ3 : Z' = Z2 := hZ2.symm; subst hZ3)
                 | (intro (Z2 : ZT) hZ2; have hZ3 : Z1 = Z2 := hZ2.symm; subst hZ3)
                 | (intro (Z2 : ZT) hZ2; have hZ3 : Z = Z2 := hZ2.symm; subst hZ3)
                 | (refine ld_bnd (by first | with_reducible assumption | assumption) rfl ?_; intro _ _ _ _)
                 | (refine st_bnd (by first | with_reducible assumption | assumption) (by first | with_reducible assumption | assumption) (by decide) (fun lo hi hb => by first | (cases hb; done) | (cases hb; constructor <;> (first | omega | (simp (disch := omega) only [w32_id, w64_id]; omega) | (simp (disch := omega) only [w32_id, w64_id] at *; omega) | (simp only [w32, w64] at *; omega) | exact (and32_le (by omega) (by omega)).1 | exact (and32_le (by omega) (by omega)).2 | exact (mulR (by omega) (by omega) (by omega) (by omega)).1 | exact (mulR (by omega) (by omega) (by omega) (by omega)).2 | (subst_vars; simp [upZ] at *; omega) | (subst_vars; simp [upZ] at *; simp only [w32, w64] at *; omega)))) ?_; intro Z' _ _ _)
                 | (intro (r : Option PV) σ' hq
                    first
                    | (obtain ⟨rfl, rfl⟩ := hq)
                    | (obtain ⟨Z', x, rfl, rfl, hI2, hk2, hl2, hu2⟩ := hq; have hk3 := keeps_to (by first | with_reducible assumption | assumption) (by rfl) hk2; clear hk2)
                    | (obtain ⟨Z', x, rfl, rfl, hI2, hk2⟩ := hq; have hk3 := keeps_to (by first | with_reducible assumption | assumption) (by rfl) hk2; clear hk2)
                    | (rcases hq with ⟨Z', rfl, rfl, hI2, hk2⟩ | ⟨Z', rfl, rfl, hI2, hk2⟩ <;> (have hk3 := keeps_to (by first | with_reducible assumption | assumption) (by rfl) hk2; clear hk2))
                    | (obtain ⟨Z', rfl, rfl, hI2, hk2⟩ := hq; have hk3 := keeps_to (by first | with_reducible assumption | assumption) (by rfl) hk2; clear hk2))
                 | (intro hc; (try simp only [cmp3_c] at hc); simp only [cmpI] at hc)
                 | (show CI _; assumption)
                 | intro (_ : Int)
                 | intro (Z' : ZT)
                 | intro (_ : CI _)
                 | intro (_ : keeps _ _ _)
                 | intro (_ : _ ≤ _)
                 | intro (_ : _ = _)
                 | intro (_ : _ < _)
                 | intro (_ : _ ∨ _)))
          all_goals first
            | with_reducible rfl
            | ((with_reducible show _ = _); rfl)
            | ((with_reducible show recvG _ _); rfl)
            | with_reducible exact trivial
            | ((fail_if_success (first | (with_reducible show _ ≤ _) | (with_reducible show _ = _) | (with_reducible show _ ∨ _) | (with_reducible show _ < _) | (with_reducible show G _ _ _ _))); (refine Exists.intro _ (And.intro rfl (And.intro rfl (And.intro ?_ ?_)))) <;> with_reducible assumption)
            | ((with_reducible show G 13 _ _ _); exact hG.2 13 _ [(0, vr 18), (1, vr 36), (2, vi _)] _ _ rfl (ih13 _ _ (by assumption) (by assumption) (by refine ⟨by first | omega | (refine ⟨?_, ?_⟩ <;> (first | omega | (simp (disch := omega) only [w32_id, w64_id]; omega) | (simp (disch := omega) only [w32_id, w64_id] at *; omega) | (simp only [w32, w64] at *; omega) | exact (and32_le (by omega) (by omega)).1 | exact (and32_le (by omega) (by omega)).2 | exact (mulR (by omega) (by omega) (by omega) (by omega)).1 | exact (mulR (by omega) (by omega) (by omega) (by omega)).2 | (subst_vars; simp [upZ] at *; omega) | (subst_vars; simp [upZ] at *; simp only [w32, w64] at *; omega))) | (first | omega | (simp (disch := omega) only [w32_id, w64_id]; omega) | (simp (disch := omega) only [w32_id, w64_id] at *; omega) | (simp only [w32, w64] at *; omega) | exact (and32_le (by omega) (by omega)).1 | exact (and32_le (by omega) (by omega)).2 | exact (mulR (by omega) (by omega) (by omega) (by omega)).1 | exact (mulR (by omega) (by omega) (by omega) (by omega)).2 | (subst_vars; simp [upZ] at *; omega) | (subst_vars; simp [upZ] at *; simp only [w32, w64] at *; omega)), trivial⟩) (by first | omega | (simp (disch := omega) only [w32_id, w64_id]; omega) | (simp (disch := omega) only [w32_id, w64_id] at *; omega) | (simp only [w32, w64] at *; omega) | exact (and32_le (by omega) (by omega)).1 | exact (and32_le (by omega) (by omega)).2 | exact (mulR (by omega) (by omega) (by omega) (by omega)).1 | exact (mulR (by omega) (by omega) (by omega) (by omega)).2 | (subst_vars; simp [upZ] at *; omega) | (subst_vars; simp [upZ] at *; simp only [w32, w64] at *; omega))))
            | ((with_reducible show G 42 _ _ _); exact hG.2 42 _ [(0, vr 18), (1, vr 36), (2, vi _)] _ _ rfl (ih42 _ _ (by assumption) (by assumption) (by refine ⟨by first | omega | (refine ⟨?_, ?_⟩ <;> (first | omega | (simp (disch := omega) only [w32_id, w64_id]; omega) | (simp (disch := omega) only [w32_id, w64_id] at *; omega) | (simp only [w32, w64] at *; omega) | exact (and32_le (by omega) (by omega)).1 | exact (and32_le (by omega) (by omega)).2 | exact (mulR (by omega) (by omega) (by omega) (by omega)).1 | exact (mulR (by omega) (by omega) (by omega) (by omega)).2 | (subst_vars; simp [upZ] at *; omega) | (subst_vars; simp [upZ] at *; simp only [w32, w64] at *; omega))) | (first | omega | (simp (disch := omega) only [w32_id, w64_id]; omega) | (simp (disch := omega) only [w32_id, w64_id] at *; omega) | (simp only [w32, w64] at *; omega) | exact (and32_le (by omega) (by omega)).1 | exact (and32_le (by omega) (by omega)).2 | exact (mulR (by omega) (by omega) (by omega) (by omega)).1 | exact (mulR (by omega) (by omega) (by omega) (by omega)).2 | (subst_vars; simp [upZ] at *; omega) | (subst_vars; simp [upZ] at *; simp only [w32, w64] at *; omega)), trivial⟩) (by first | omega | (simp (disch := omega) only [w32_id, w64_id]; omega) | (simp (disch := omega) only [w32_id, w64_id] at *; omega) | (simp only [w32, w64] at *; omega) | exact (and32_le (by omega) (by omega)).1 | exact (and32_le (by omega) (by omega)).2 | exact (mulR (by omega) (by omega) (by omega) (by omega)).1 | exact (mulR (by omega) (by omega) (by omega) (by omega)).2 | (subst_vars; simp [upZ] at *; omega) | (subst_vars; simp [upZ] at *; simp only [w32, w64] at *; omega))))
            | ((with_reducible show G 83 _ _ _); exact hG.2 83 _ [(0, vr 18), (1, vr 36), (2, vi _)] _ _ rfl (ih83 _ _ (by assumption) (by assumption) (by refine ⟨by first | omega | (refine ⟨?_, ?_⟩ <;> (first | omega | (simp (disch := omega) only [w32_id, w64_id]; omega) | (simp (disch := omega) only [w32_id, w64_id] at *; omega) | (simp only [w32, w64] at *; omega) | exact (and32_le (by omega) (by omega)).1 | exact (and32_le (by omega) (by omega)).2 | exact (mulR (by omega) (by omega) (by omega) (by omega)).1 | exact (mulR (by omega) (by omega) (by omega) (by omega)).2 | (subst_vars; simp [upZ] at *; omega) | (subst_vars; simp [upZ] at *; simp only [w32, w64] at *; omega))) | (first | omega | (simp (disch := omega) only [w32_id, w64_id]; omega) | (simp (disch := omega) only [w32_id, w64_id] at *; omega) | (simp only [w32, w64] at *; omega) | exact (and32_le (by omega) (by omega)).1 | exact (and32_le (by omega) (by omega)).2 | exact (mulR (by omega) (by omega) (by omega) (by omega)).1 | exact (mulR (by omega) (by omega) (by omega) (by omega)).2 | (subst_vars; simp [upZ] at *; omega) | (subst_vars; simp [upZ] at *; simp only [w32, w64] at *; omega)), trivial⟩) (by first | omega | (simp (disch := omega) only [w32_id, w64_id]; omega) | (simp (disch := omega) only [w32_id, w64_id] at *; omega) | (simp only [w32, w64] at *; omega) | exact (and32_le (by omega) (by omega)).1 | exact (and32_le (by omega) (by omega)).2 | exact (mulR (by omega) (by omega) (by omega) (by omega)).1 | exact (mulR (by omega) (by omega) (by omega) (by omega)).2 | (subst_vars; simp [upZ] at *; omega) | (subst_vars; simp [upZ] at *; simp only [w32, w64] at *; omega))))
            | ((fail_if_success (first | (with_reducible show _ ≤ _) | (with_reducible show _ = _) | (with_reducible show _ ∨ _) | (with_reducible show _ < _) | (with_reducible show G _ _ _ _))); exact Exists.intro _ (Exists.intro _ ⟨rfl, rfl, by assumption, by assumption, by (first | omega | (simp (disch := omega) only [w32_id, w64_id]; omega) | (simp (disch := omega) only [w32_id, w64_id] at *; omega) | (simp only [w32, w64] at *; omega) | exact (and32_le (by omega) (by omega)).1 | exact (and32_le (by omega) (by omega)).2 | exact (mulR (by omega) (by omega) (by omega) (by omega)).1 | exact (mulR (by omega) (by omega) (by omega) (by omega)).2 | (subst_vars; simp [upZ] at *; omega) | (subst_vars; simp [upZ] at *; simp only [w32, w64] at *; omega)), by (first | omega | (simp (disch := omega) only [w32_id, w64_id]; omega) | (simp (disch := omega) only [w32_id, w64_id] at *; omega) | (simp only [w32, w64] at *; omega) | exact (and32_le (by omega) (by omega)).1 | exact (and32_le (by omega) (by omega)).2 | exact (mulR (by omega) (by omega) (by omega) (by omega)).1 | exact (mulR (by omega) (by omega) (by omega) (by omega)).2 | (subst_vars; simp [upZ] at *; omega) | (subst_vars; simp [upZ] at *; simp only [w32, w64] at *; omega))⟩))
            | ((fail_if_success (first | (with_reducible show _ ≤ _) | (with_reducible show _ = _) | (with_reducible show _ ∨ _) | (with_reducible show _ < _) | (with_reducible show G _ _ _ _))); exact Exists.intro _ (Exists.intro _ ⟨rfl, rfl, by assumption, by assumption⟩))
            | ((fail_if_success (first | (with_reducible show _ ≤ _) | (with_reducible show _ = _) | (with_reducible show _ ∨ _) | (with_reducible show _ < _) | (with_reducible show G _ _ _ _))); exact Exists.intro _ ⟨rfl, rfl, by assumption, by assumption⟩)
            | ((fail_if_success (first | (with_reducible show _ ≤ _) | (with_reducible show _ = _) | (with_reducible show _ ∨ _) | (with_reducible show _ < _) | (with_reducible show G _ _ _ _))); exact Or.inl (Exists.intro _ ⟨rfl, rfl, by assumption, by assumption⟩))
            | ((fail_if_success (first | (with_reducible show _ ≤ _) | (with_reducible show _ = _) | (with_reducible show _ ∨ _) | (with_reducible show _ < _) | (with_reducible show G _ _ _ _))); exact Or.inr (Exists.intro _ ⟨rfl, rfl, by assumption, by assumption⟩))
            | omega
            | rfl
            | exact trivial
            | decide
            | (show (0 : Int) < _; omega)
            | (show (0 : Int) < _; simp only [w64] at *; omega)
            | (simp only [w32, w64] at *; omega)
            | (first | omega | (simp (disch := omega) only [w32_id, w64_id]; omega) | (simp (disch := omega) only [w32_id, w64_id] at *; omega) | (simp only [w32, w64] at *; omega) | exact (and32_le (by omega) (by omega)).1 | exact (and32_le (by omega) (by omega)).2 | exact (mulR (by omega) (by omega) (by omega) (by omega)).1 | exact (mulR (by omega) (by omega) (by omega) (by omega)).2 | (subst_vars; simp [upZ] at *; omega) | (subst_vars; simp [upZ] at *; simp only [w32, w64] at *; omega))
            | skip
    refine wq_run hG n R0 [13, 42, 83] 900 _ _ _ _ ?_
    repeat' (first
        | with_reducible rfl
        | refine And.intro ?_ ?_
        | with_reducible exact True.intro
        | ((with_reducible show _ = true); rfl)
        | ((with_reducible show recvG _ _); rfl)
        | ((with_reducible show CI _); first | with_reducible assumption | assumption)
        | (fail_if_success (first | (with_reducible show _ ≤ _) | (with_reducible show _ = _) | (with_reducible show _ ∨ _) | (with_reducible show _ < _) | (with_reducible show G _ _ _ _))
           first
           | show G _ _ _ _
           | (intro (Z2 : ZT) hZ2; have hZ3 : Z' = Z2 := hZ2.symm; subst hZ3)
           | (intro (Z2 : ZT) hZ2; have hZ3 : Z1 = Z2 := hZ2.symm; subst hZ3)
           | (intro (Z2 : ZT) hZ2; have hZ3 : Z = Z2 := hZ2.symm; subst hZ3)
           | (refine ld_bnd (by first | with_reducible assumption | assumption) rfl ?_; intro _ _ _ _)
           | (refine st_bnd (by first | with_reducible assumption | assumption) (by first | with_reducible assumption | assumption) (by decide) (fun lo hi hb => by first | (cases hb; done) | (cases hb; constructor <;> (first | omega | (simp (disch := omega) only [w32_id, w64_id]; omega) | (simp (disch := omega) only [w32_id, w64_id] at *; omega) | (simp only [w32, w64] at *; omega) | exact (and32_le (by omega) (by omega)).1 | exact (and32_le (by omega) (by omega)).2 | exact (mulR (by omega) (by omega) (by omega) (by omega)).1 | exact (mulR (by omega) (by omega) (by omega) (by omega)).2 | (subst_vars; simp [upZ] at *; omega) | (subst_vars; simp [upZ] at *; simp only [w32, w64] at *; omega)))) ?_; intro Z' _ _ _)
           | (intro (r : Option PV) σ' hq
              first
              | (obtain ⟨rfl, rfl⟩ := hq)
              | (obtain ⟨Z', x, rfl, rfl, hI2, hk2, hl2, hu2⟩ := hq; have hk3 := keeps_to (by first | with_reducible assumption | assumption) (by rfl) hk2; clear hk2)
              | (obtain ⟨Z', x, rfl, rfl, hI2, hk2⟩ := hq; have hk3 := keeps_to (by first | with_reducible assumption | assumption) (by rfl) hk2; clear hk2)
              | (rcases hq with ⟨Z', rfl, rfl, hI2, hk2⟩ | ⟨Z', rfl, rfl, hI2, hk2⟩ <;> (have hk3 := keeps_to (by first | with_reducible assumption | assumption) (by rfl) hk2; clear hk2))
              | (obtain ⟨Z', rfl, rfl, hI2, hk2⟩ := hq; have hk3 := keeps_to (by first | with_reducible assumption | assumption) (by rfl) hk2; clear hk2))
           | (intro hc; (try simp only [cmp3_c] at hc); simp only [cmpI] at hc)
           | (show CI _; assumption)
           | intro (_ : Int)
           | intro (Z' : ZT)
           | intro (_ : CI _)
           | intro (_ : keeps _ _ _)
           | intro (_ : _ ≤ _)
           | intro (_ : _ = _)
           | intro (_ : _ < _)
           | intro (_ : _ ∨ _)))
    all_goals (try obtain ⟨lp13, lp42, lp83⟩ := loop 1000000)
    all_goals first
      | with_reducible rfl
      | ((with_reducible show _ = _); rfl)
      | ((with_reducible show recvG _ _); rfl)
      | with_reducible exact trivial
      | ((fail_if_success (first | (with_reducible show _ ≤ _) | (with_reducible show _ = _) | (with_reducible show _ ∨ _) | (with_reducible show _ < _) | (with_reducible show G _ _ _ _))); (refine Exists.intro _ (And.intro rfl (And.intro rfl (And.intro ?_ ?_)))) <;> with_reducible assumption)
      | ((with_reducible show G 13 _ _ _); exact hG.2 13 _ [(0, vr 18), (1, vr 36), (2, vi _)] _ _ rfl (lp13 _ _ (by assumption) (by assumption) (by refine ⟨by first | omega | (refine ⟨?_, ?_⟩ <;> (first | omega | (simp (disch := omega) only [w32_id, w64_id]; omega) | (simp (disch := omega) only [w32_id, w64_id] at *; omega) | (simp only [w32, w64] at *; omega) | exact (and32_le (by omega) (by omega)).1 | exact (and32_le (by omega) (by omega)).2 | exact (mulR (by omega) (by omega) (by omega) (by omega)).1 | exact (mulR (by omega) (by omega) (by omega) (by omega)).2 | (subst_vars; simp [upZ] at *; omega) | (subst_vars; simp [upZ] at *; simp only [w32, w64] at *; omega))) | (first | omega | (simp (disch := omega) only [w32_id, w64_id]; omega) | (simp (disch := omega) only [w32_id, w64_id] at *; omega) | (simp only [w32, w64] at *; omega) | exact (and32_le (by omega) (by omega)).1 | exact (and32_le (by omega) (by omega)).2 | exact (mulR (by omega) (by omega) (by omega) (by omega)).1 | exact (mulR (by omega) (by omega) (by omega) (by omega)).2 | (subst_vars; simp [upZ] at *; omega) | (subst_vars; simp [upZ] at *; simp only [w32, w64] at *; omega)), trivial⟩) (by first | omega | (simp (disch := omega) only [w32_id, w64_id]; omega) | (simp (disch := omega) only [w32_id, w64_id] at *; omega) | (simp only [w32, w64] at *; omega) | exact (and32_le (by omega) (by omega)).1 | exact (and32_le (by omega) (by omega)).2 | exact (mulR (by omega) (by omega) (by omega) (by omega)).1 | exact (mulR (by omega) (by omega) (by omega) (by omega)).2 | (subst_vars; simp [upZ] at *; omega) | (subst_vars; simp [upZ] at *; simp only [w32, w64] at *; omega))))
      | ((with_reducible show G 42 _ _ _); exact hG.2 42 _ [(0, vr 18), (1, vr 36), (2, vi _)] _ _ rfl (lp42 _ _ (by assumption) (by assumption) (by refine ⟨by first | omega | (refine ⟨?_, ?_⟩ <;> (first | omega | (simp (disch := omega) only [w32_id, w64_id]; omega) | (simp (disch := omega) only [w32_id, w64_id] at *; omega) | (simp only [w32, w64] at *; omega) | exact (and32_le (by omega) (by omega)).1 | exact (and32_le (by omega) (by omega)).2 | exact (mulR (by omega) (by omega) (by omega) (by omega)).1 | exact (mulR (by omega) (by omega) (by omega) (by omega)).2 | (subst_vars; simp [upZ] at *; omega) | (subst_vars; simp [upZ] at *; simp only [w32, w64] at *; omega))) | (first | omega | (simp (disch := omega) only [w32_id, w64_id]; omega) | (simp (disch := omega) only [w32_id, w64_id] at *; omega) | (simp only [w32, w64] at *; omega) | exact (and32_le (by omega) (by omega)).1 | exact (and32_le (by omega) (by omega)).2 | exact (mulR (by omega) (by omega) (by omega) (by omega)).1 | exact (mulR (by omega) (by omega) (by omega) (by omega)).2 | (subst_vars; simp [upZ] at *; omega) | (subst_vars; simp [upZ] at *; simp only [w32, w64] at *; omega)), trivial⟩) (by first | omega | (simp (disch := omega) only [w32_id, w64_id]; omega) | (simp (disch := omega) only [w32_id, w64_id] at *; omega) | (simp only [w32, w64] at *; omega) | exact (and32_le (by omega) (by omega)).1 | exact (and32_le (by omega) (by omega)).2 | exact (mulR (by omega) (by omega) (by omega) (by omega)).1 | exact (mulR (by omega) (by omega) (by omega) (by omega)).2 | (subst_vars; simp [upZ] at *; omega) | (subst_vars; simp [upZ] at *; simp only [w32, w64] at *; omega))))
      | ((with_reducible show G 83 _ _ _); exact hG.2 83 _ [(0, vr 18), (1, vr 36), (2, vi _)] _ _ rfl (lp83 _ _ (by assumption) (by assumption) (by refine ⟨by first | omega | (refine ⟨?_, ?_⟩ <;> (first | omega | (simp (disch := omega) only [w32_id, w64_id]; omega) | (simp (disch := omega) only [w32_id, w64_id] at *; omega) | (simp only [w32, w64] at *; omega) | exact (and32_le (by omega) (by omega)).1 | exact (and32_le (by omega) (by omega)).2 | exact (mulR (by omega) (by omega) (by omega) (by omega)).1 | exact (mulR (by omega) (by omega) (by omega) (by omega)).2 | (subst_vars; simp [upZ] at *; omega) | (subst_vars; simp [upZ] at *; simp only [w32, w64] at *; omega))) | (first | omega | (simp (disch := omega) only [w32_id, w64_id]; omega) | (simp (disch := omega) only [w32_id, w64_id] at *; omega) | (simp only [w32, w64] at *; omega) | exact (and32_le (by omega) (by omega)).1 | exact (and32_le (by omega) (by omega)).2 | exact (mulR (by omega) (by omega) (by omega) (by omega)).1 | exact (mulR (by omega) (by omega) (by omega) (by omega)).2 | (subst_vars; simp [upZ] at *; omega) | (subst_vars; simp [upZ] at *; simp only [w32, w64] at *; omega)), trivial⟩) (by first | omega | (simp (disch := omega) only [w32_id, w64_id]; omega) | (simp (disch := omega) only [w32_id, w64_id] at *; omega) | (simp only [w32, w64] at *; omega) | exact (and32_le (by omega) (by omega)).1 | exact (and32_le (by omega) (by omega)).2 | exact (mulR (by omega) (by omega) (by omega) (by omega)).1 | exact (mulR (by omega) (by omega) (by omega) (by omega)).2 | (subst_vars; simp [upZ] at *; omega) | (subst_vars; simp [upZ] at *; simp only [w32, w64] at *; omega))))
      | ((fail_if_success (first | (with_reducible show _ ≤ _) | (with_reducible show _ = _) | (with_reducible show _ ∨ _) | (with_reducible show _ < _) | (with_reducible show G _ _ _ _))); exact Exists.intro _ (Exists.intro _ ⟨rfl, rfl, by assumption, by assumption, by (first | omega | (simp (disch := omega) only [w32_id, w64_id]; omega) | (simp (disch := omega) only [w32_id, w64_id] at *; omega) | (simp only [w32, w64] at *; omega) | exact (and32_le (by omega) (by omega)).1 | exact (and32_le (by omega) (by omega)).2 | exact (mulR (by omega) (by omega) (by omega) (by omega)).1 | exact (mulR (by omega) (by omega) (by omega) (by omega)).2 | (subst_vars; simp [upZ] at *; omega) | (subst_vars; simp [upZ] at *; simp only [w32, w64] at *; omega)), by (first | omega | (simp (disch := omega) only [w32_id, w64_id]; omega) | (simp (disch := omega) only [w32_id, w64_id] at *; omega) | (simp only [w32, w64] at *; omega) | exact (and32_le (by omega) (by omega)).1 | exact (and32_le (by omega) (by omega)).2 | exact (mulR (by omega) (by omega) (by omega) (by omega)).1 | exact (mulR (by omega) (by omega) (by omega) (by omega)).2 | (subst_vars; simp [upZ] at *; omega) | (subst_vars; simp [upZ] at *; simp only [w32, w64] at *; omega))⟩))
      | ((fail_if_success (first | (with_reducible show _ ≤ _) | (with_reducible show _ = _) | (with_reducible show _ ∨ _) | (with_reducible show _ < _) | (with_reducible show G _ _ _ _))); exact Exists.intro _ (Exists.intro _ ⟨rfl, rfl, by assumption, by assumption⟩))
      | ((fail_if_success (first | (with_reducible show _ ≤ _) | (with_reducible show _ = _) | (with_reducible show _ ∨ _) | (with_reducible show _ < _) | (with_reducible show G _ _ _ _))); exact Exists.intro _ ⟨rfl, rfl, by assumption, by assumption⟩)
      | ((fail_if_success (first | (with_reducible show _ ≤ _) | (with_reducible show _ = _) | (with_reducible show _ ∨ _) | (with_reducible show _ < _) | (with_reducible show G _ _ _ _))); exact Or.inl (Exists.intro _ ⟨rfl, rfl, by assumption, by assumption⟩))
      | ((fail_if_success (first | (with_reducible show _ ≤ _) | (with_reducible show _ = _) | (with_reducible show _ ∨ _) | (with_reducible show _ < _) | (with_reducible show G _ _ _ _))); exact Or.inr (Exists.intro _ ⟨rfl, rfl, by assumption, by assumption⟩))
      | omega
      | rfl
      | exact trivial
      | decide
      | (show (0 : Int) < _; omega)
      | (show (0 : Int) < _; simp only [w64] at *; omega)
      | (simp only [w32, w64] at *; omega)
      | (first | omega | (simp (disch := omega) only [w32_id, w64_id]; omega) | (simp (disch := omega) only [w32_id, w64_id] at *; omega) | (simp only [w32, w64] at *; omega) | exact (and32_le (by omega) (by omega)).1 | exact (and32_le (by omega) (by omega)).2 | exact (mulR (by omega) (by omega) (by omega) (by omega)).1 | exact (mulR (by omega) (by omega) (by omega) (by omega)).2 | (subst_vars; simp [upZ] at *; omega) | (subst_vars; simp [upZ] at *; simp only [w32, w64] at *; omega))
      | skip
  · have loop : ∀ fuel : Nat, (∀ (Z1 : ZT) (v2 : Int), CI Z1 → keeps ([18, 18 + 1, 18 + 2, 18 + 3, 18 + 4, 18 + 5, 18 + 6, 18 + 7, 18 + 8, 18 + 9, 18 + 10, 18 + 11, 18 + 12, 18 + 13, 18 + 14, 18 + 15, 18 + 16]) Z Z1 → ((0 ≤ v2 ∧ v2 ≤ 144) ∧ True) → 1000 - v2 ≤ (fuel : Int) → G 13 [(0, vr 18), (1, vr 53), (2, vi v2)] [] (n, Z1, R0)) ∧ (∀ (Z1 : ZT) (v2 : Int), CI Z1 → keeps ([18, 18 + 1, 18 + 2, 18 + 3, 18 + 4, 18 + 5, 18 + 6, 18 + 7, 18 + 8, 18 + 9, 18 + 10, 18 + 11, 18 + 12, 18 + 13, 18 + 14, 18 + 15, 18 + 16]) Z Z1 → ((0 ≤ v2 ∧ v2 ≤ 4) ∧ True) → 500 - v2 ≤ (fuel : Int) → G 42 [(0, vr 18), (1, vr 53), (2, vi v2)] [] (n, Z1, R0)) ∧ (∀ (Z1 : ZT) (v2 : Int), CI Z1 → keeps ([18, 18 + 1, 18 + 2, 18 + 3, 18 + 4, 18 + 5, 18 + 6, 18 + 7, 18 + 8, 18 + 9, 18 + 10, 18 + 11, 18 + 12, 18 + 13, 18 + 14, 18 + 15, 18 + 16]) Z Z1 → ((0 ≤ v2 ∧ v2 ≤ 12) ∧ True) → 13 - v2 ≤ (fuel : Int) → G 83 [(0, vr 18), (1, vr 53), (2, vi v2)] [] (n, Z1, R0)) := by
      intro fuel
      induction fuel with
      | zero => exact ⟨(by intros; omega), (by intros; omega), (by intros; omega)⟩
      | succ fuel ih =>
        obtain ⟨ih13, ih42, ih83⟩ := ih
        refine ⟨?_, ?_, ?_⟩
        · intro Z1 v2 hI1 hk1 hv hm
          obtain ⟨w0, -⟩ := hv
          clear hk hI
          refine wq_run hG n R0 [13, 42, 83] 900 _ _ _ _ ?_
          repeat' (first
              | with_reducible rfl
              | refine And.intro ?_ ?_
              | with_reducible exact True.intro
              | ((with_reducible show _ = true); rfl)
              | ((with_reducible show recvG _ _); rfl)
              | ((with_reducible show CI _); first | with_reducible assumption | assumption)
              | (fail_if_success (first | (with_reducible show _ ≤ _) | (with_reducible show _ = _) | (with_reducible show _ ∨ _) | (with_reducible show _ < _) | (with_reducible show G _ _ _ _))
                 first
                 | show G _ _ _ _
                 | (intro (Z2 : ZT) hZ2; have hZ3 : Z' = Z2 := hZ2.symm; subst hZ3)
                 | (intro (Z2 : ZT) hZ2; have hZ3 : Z1 = Z2 := hZ2.symm; subst hZ3)
                 | (intro (Z2 : ZT) hZ2; have hZ3 : Z = Z2 := hZ2.symm; subst hZ3)
                 | (refine ld_bnd (by first | with_reducible assumption | assumption) rfl ?_; intro _ _ _ _)
                 | (refine st_bnd (by first | with_reducible assumption | assumption) (by first | with_reducible assumption | assumption) (by decide) (fun lo hi hb => by first | (cases hb; done) | (cases hb; constructor <;> (first | omega | (simp (disch := omega) only [w32_id, w64_id]; omega) | (simp (disch := omega) only [w32_id, w64_id] at *; omega) | (simp only [w32, w64] at *; omega) | exact (and32_le (by omega) (by omega)).1 | exact (and32_le (by omega) (by omega)).2 | exact (mulR (by omega) (by omega) (by omega) (by omega)).1 | exact (mulR (by omega) (by omega) (by omega) (by omega)).2 | (subst_vars; simp [upZ] at *; omega) | (subst_vars; simp [upZ] at *; simp only [w32, w64] at *; omega)))) ?_; intro Z' _ _ _)
                 | (intro (r : Option PV) σ' hq
                    first
                    | (obtain ⟨rfl, rfl⟩ := hq)
                    | (obtain ⟨Z', x, rfl, rfl, hI2, hk2, hl2, hu2⟩ := hq; have hk3 := keeps_to (by first | with_reducible assumption | assumption) (by rfl) hk2; clear hk2)
                    | (obtain ⟨Z', x, rfl, rfl, hI2, hk2⟩ := hq; have hk3 := keeps_to (by first | with_reducible assumption | assumption) (by rfl) hk2; clear hk2)
                    | (rcases hq with ⟨Z', rfl, rfl, hI2, hk2⟩ | ⟨Z', rfl, rfl, hI2, hk2⟩ <;> (have hk3 := keeps_to (by first | with_reducible assumption | assumption) (by rfl) hk2; clear hk2))
                    | (obtain ⟨Z', rfl, rfl, hI2, hk2⟩ := hq; have hk3 := keeps_to (by first | with_reducible assumption | assumption) (by rfl) hk2; clear hk2))
                 | (intro hc; (try simp only [cmp3_c] at hc); simp only [cmpI] at hc)
                 | (show CI _; assumption)
                 | intro (_ : Int)
                 | intro (Z' : ZT)
                 | intro (_ : CI _)
                 | intro (_ : keeps _ _ _)
                 | intro (_ : _ ≤ _)
                 | intro (_ : _ = _)
                 | intro (_ : _ < _)
                 | intro (_ : _ ∨ _)))
          all_goals first
            | with_reducible rfl
            | ((with_reducible show _ = _); rfl)
            | ((with_reducible show recvG _ _); rfl)
            | with_reducible exact trivial
            | ((fail_if_success (first | (with_reducible show _ ≤ _) | (with_reducible show _ = _) | (with_reducible show _ ∨ _) | (with_reducible show _ < _) | (with_reducible show G _ _ _ _))); (refine Exists.intro _ (And.intro rfl (And.intro rfl (And.intro ?_ ?_)))) <;> with_reducible assumption)
            | ((with_reducible show G 13 _ _ _); exact hG.2 13 _ [(0, vr 18), (1, vr 53), (2, vi _)] _ _ rfl (ih13 _ _ (by assumption) (by assumption) (by refine ⟨by first | omega | (refine ⟨?_, ?_⟩ <;> (first | omega | (simp (disch := omega) only [w32_id, w64_id]; omega) | (simp (disch := omega) only [w32_id, w64_id] at *; omega) | (simp only [w32, w64] at *; omega) | exact (and32_le (by omega) (by omega)).1 | exact (and32_le (by omega) (by omega)).2 | exact (mulR (by omega) (by omega) (by omega) (by omega)).1 | exact (mulR (by omega) (by omega) (by omega) (by omega)).2 | (subst_vars; simp [upZ] at *; omega) | (subst_vars; simp [upZ] at *; simp only [w32, w64] at *; omega))) | (first | omega | (simp (disch := omega) only [w32_id, w64_id]; omega) | (simp (disch := omega) only [w32_id, w64_id] at *; omega) | (simp only [w32, w64] at *; omega) | exact (and32_le (by omega) (by omega)).1 | exact (and32_le (by omega) (by omega)).2 | exact (mulR (by omega) (by omega) (by omega) (by omega)).1 | exact (mulR (by omega) (by omega) (by omega) (by omega)).2 | (subst_vars; simp [upZ] at *; omega) | (subst_vars; simp [upZ] at *; simp only [w32, w64] at *; omega)), trivial⟩) (by first | omega | (simp (disch := omega) only [w32_id, w64_id]; omega) | (simp (disch := omega) only [w32_id, w64_id] at *; omega) | (simp only [w32, w64] at *; omega) | exact (and32_le (by omega) (by omega)).1 | exact (and32_le (by omega) (by omega)).2 | exact (mulR (by omega) (by omega) (by omega) (by omega)).1 | exact (mulR (by omega) (by omega) (by omega) (by omega)).2 | (subst_vars; simp [upZ] at *; omega) | (subst_vars; simp [upZ] at *; simp only [w32, w64] at *; omega))))
            | ((with_reducible show G 42 _ _ _); exact hG.2 42 _ [(0, vr 18), (1, vr 53), (2, vi _)] _ _ rfl (ih42 _ _ (by assumption) (by assumption) (by refine ⟨by first | omega | (refine ⟨?_, ?_⟩ <;> (first | omega | (simp (disch := omega) only [w32_id, w64_id]; omega) | (simp (disch := omega) only [w32_id, w64_id] at *; omega) | (simp only [w32, w64] at *; omega) | exact (and32_le (by omega) (by omega)).1 | exact (and32_le (by omega) (by omega)).2 | exact (mulR (by omega) (by omega) (by omega) (by omega)).1 | exact (mulR (by omega) (by omega) (by omega) (by omega)).2 | (subst_vars; simp [upZ] at *; omega) | (subst_vars; simp [upZ] at *; simp only [w32, w64] at *; omega))) | (first | omega | (simp (disch := omega) only [w32_id, w64_id]; omega) | (simp (disch := omega) only [w32_id, w64_id] at *; omega) | (simp only [w32, w64] at *; omega) | exact (and32_le (by omega) (by omega)).1 | exact (and32_le (by omega) (by omega)).2 | exact (mulR (by omega) (by omega) (by omega) (by omega)).1 | exact (mulR (by omega) (by omega) (by omega) (by omega)).2 | (subst_vars; simp [upZ] at *; omega) | (subst_vars; simp [upZ] at *; simp only [w32, w64] at *; omega)), trivial⟩) (by first | omega | (simp (disch := omega) only [w32_id, w64_id]; omega) | (simp (disch := omega) only [w32_id, w64_id] at *; omega) | (simp only [w32, w64] at *; omega) | exact (and32_le (by omega) (by omega)).1 | exact (and32_le (by omega) (by omega)).2 | exact (mulR (by omega) (by omega) (by omega) (by omega)).1 | exact (mulR (by omega) (by omega) (by omega) (by omega)).2 | (subst_vars; simp [upZ] at *; omega) | (subst_vars; simp [upZ] at *; simp only [w32, w64] at *; omega))))
            | ((with_reducible show G 83 _ _ _); exact hG.2 83 _ [(0, vr 18), (1, vr 53), (2, vi _)] _ _ rfl (ih83 _ _ (by assumption) (by assumption) (by refine ⟨by first | omega | (refine ⟨?_, ?_⟩ <;> (first | omega | (simp (disch := omega) only [w32_id, w64_id]; omega) | (simp (disch := omega) only [w32_id, w64_id] at *; omega) | (simp only [w32, w64] at *; omega) | exact (and32_le (by omega) (by omega)).1 | exact (and32_le (by omega) (by omega)).2 | exact (mulR (by omega) (by omega) (by omega) (by omega)).1 | exact (mulR (by omega) (by omega) (by omega) (by omega)).2 | (subst_vars; simp [upZ] at *; omega) | (subst_vars; simp [upZ] at *; simp only [w32, w64] at *; omega))) | (first | omega | (simp (disch := omega) only [w32_id, w64_id]; omega) | (simp (disch := omega) only [w32_id, w64_id] at *; omega) | (simp only [w32, w64] at *; omega) | exact (and32_le (by omega) (by omega)).1 | exact (and32_le (by omega) (by omega)).2 | exact (mulR (by omega) (by omega) (by omega) (by omega)).1 | exact (mulR (by omega) (by omega) (by omega) (by omega)).2 | (subst_vars; simp [upZ] at *; omega) | (subst_vars; simp [upZ] at *; simp only [w32, w64] at *; omega)), trivial⟩) (by first | omega | (simp (disch := omega) only [w32_id, w64_id]; omega) | (simp (disch := omega) only [w32_id, w64_id] at *; omega) | (simp only [w32, w64] at *; omega) | exact (and32_le (by omega) (by omega)).1 | exact (and32_le (by omega) (by omega)).2 | exact (mulR (by omega) (by omega) (by omega) (by omega)).1 | exact (mulR (by omega) (by omega) (by omega) (by omega)).2 | (subst_vars; simp [upZ] at *; omega) | (subst_vars; simp [upZ] at *; simp only [w32, w64] at *; omega))))
            | ((fail_if_success (first | (with_reducible show _ ≤ _) | (with_reducible show _ = _) | (with_reducible show _ ∨ _) | (with_reducible show _ < _) | (with_reducible show G _ _ _ _))); exact Exists.intro _ (Exists.intro _ ⟨rfl, rfl, by assumption, by assumption, by (first | omega | (simp (disch := omega) only [w32_id, w64_id]; omega) | (simp (disch := omega) only [w32_id, w64_id] at *; omega) | (simp only [w32, w64] at *; omega) | exact (and32_le (by omega) (by omega)).1 | exact (and32_le (by omega) (by omega)).2 | exact (mulR (by omega) (by omega) (by omega) (by omega)).1 | exact (mulR (by omega) (by omega) (by omega) (by omega)).2 | (subst_vars; simp [upZ] at *; omega) | (subst_vars; simp [upZ] at *; simp only [w32, w64] at *; omega)), by (first | omega | (simp (disch := omega) only [w32_id, w64_id]; omega) | (simp (disch := omega) only [w32_id, w64_id] at *; omega) | (simp only [w32, w64] at *; omega) | exact (and32_le (by omega) (by omega)).1 | exact (and32_le (by omega) (by omega)).2 | exact (mulR (by omega) (by omega) (by omega) (by omega)).1 | exact (mulR (by omega) (by omega) (by omega) (by omega)).2 | (subst_vars; simp [upZ] at *; omega) | (subst_vars; simp [upZ] at *; simp only [w32, w64] at *; omega))⟩))
            | ((fail_if_success (first | (with_reducible show _ ≤ _) | (with_reducible show _ = _) | (with_reducible show _ ∨ _) | (with_reducible show _ < _) | (with_reducible show G _ _ _ _))); exact Exists.intro _ (Exists.intro _ ⟨rfl, rfl, by assumption, by assumption⟩))
            | ((fail_if_success (first | (with_reducible show _ ≤ _) | (with_reducible show _ = _) | (with_reducible show _ ∨ _) | (with_reducible show _ < _) | (with_reducible show G _ _ _ _))); exact Exists.intro _ ⟨rfl, rfl, by assumption, by assumption⟩)
            | ((fail_if_success (first | (with_reducible show _ ≤ _) | (with_reducible show _ = _) | (with_reducible show _ ∨ _) | (with_reducible show _ < _) | (with_reducible show G _ _ _ _))); exact Or.inl (Exists.intro _ ⟨rfl, rfl, by assumption, by assumption⟩))
            | ((fail_if_success (first | (with_reducible show _ ≤ _) | (with_reducible show _ = _) | (with_reducible show _ ∨ _) | (with_reducible show _ < _) | (with_reducible show G _ _ _ _))); exact Or.inr (Exists.intro _ ⟨rfl, rfl, by assumption, by assumption⟩))
            | omega
            | rfl
            | exact trivial
            | decide
            | (show (0 : Int) < _; omega)
            | (show (0 : Int) < _; simp only [w64] at *; omega)
            | (simp only [w32, w64] at *; omega)
            | (first | omega | (simp (disch := omega) only [w32_id, w64_id]; omega) | (simp (disch := omega) only [w32_id, w64_id] at *; omega) | (simp only [w32, w64] at *; omega) | exact (and32_le (by omega) (by omega)).1 | exact (and32_le (by omega) (by omega)).2 | exact (mulR (by omega) (by omega) (by omega) (by omega)).1 | exact (mulR (by omega) (by omega) (by omega) (by omega)).2 | (subst_vars; simp [upZ] at *; omega) | (subst_vars; simp [upZ] at *; simp only [w32, w64] at *; omega))
            | skip
        · intro Z1 v2 hI1 hk1 hv hm
          obtain ⟨w0, -⟩ := hv
          clear hk hI
          refine wq_run hG n R0 [13, 42, 83] 900 _ _ _ _ ?_
          repeat' (first
              | with_reducible rfl
              | refine And.intro ?_ ?_
              | with_reducible exact True.intro
              | ((with_reducible show _ = true); rfl)
              | ((with_reducible show recvG _ _); rfl)
              | ((with_reducible show CI _); first | with_reducible assumption | assumption)
              | (fail_if_success (first | (with_reducible show _ ≤ _) | (with_reducible show _ = _) | (with_reducible show _ ∨ _) | (with_reducible show _ < _) | (with_reducible show G _ _ _ _))
                 first
                 | show G _ _ _ _
                 | (intro (Z2 : ZT) hZ2; have hZ3 : Z' = Z2 := hZ2.symm; subst hZ3)
                 | (intro (Z2 : ZT) hZ2; have hZ3 : Z1 = Z2 := hZ2.symm; subst hZ3)
                 | (intro (Z2 : ZT) hZ2; have hZ3 : Z = Z2 := hZ2.symm; subst hZ3)
                 | (refine ld_bnd (by first | with_reducible assumption | assumption) rfl ?_; intro _ _ _ _)
                 | (refine st_bnd (by first | with_reducible assumption | assumption) (by first | with_reducible assumption | assumption) (by decide) (fun lo hi hb => by first | (cases hb; done) | (cases hb; constructor <;> (first | omega | (simp (disch := omega) only [w32_id, w64_id]; omega) | (simp (disch := omega) only [w32_id, w64_id] at *; omega) | (simp only [w32, w64] at *; omega) | exact (and32_le (by omega) (by omega)).1 | exact (and32_le (by omega) (by omega)).2 | exact (mulR (by omega) (by omega) (by omega) (by omega)).1 | exact (mulR (by omega) (by omega) (by omega) (by omega)).2 | (subst_vars; simp [upZ] at *; omega) | (subst_vars; simp [upZ] at *; simp only [w32, w64] at *; omega)))) ?_; intro Z' _ _ _)
                 | (intro (r : Option PV) σ' hq
                    first
                    | (obtain ⟨rfl, rfl⟩ := hq)
                    | (obtain ⟨Z', x, rfl, rfl, hI2, hk2, hl2, hu2⟩ := hq; have hk3 := keeps_to (by first | with_reducible assumption | assumption) (by rfl) hk2; clear hk2)
                    | (obtain ⟨Z', x, rfl, rfl, hI2, hk2⟩ := hq; have hk3 := keeps_to (by first | with_reducible assumption | assumption) (by rfl) hk2; clear hk2)
                    | (rcases hq with ⟨Z', rfl, rfl, hI2, hk2⟩ | ⟨Z', rfl, rfl, hI2, hk2⟩ <;> (have hk3 := keeps_to (by first | with_reducible assumption | assumption) (by rfl) hk2; clear hk2))
                    | (obtain ⟨Z', rfl, rfl, hI2, hk2⟩ := hq; have hk3 := keeps_to (by first | with_reducible assumption | assumption) (by rfl) hk2; clear hk2))
                 | (intro hc; (try simp only [cmp3_c] at hc); simp only [cmpI] at hc)
                 | (show CI _; assumption)
                 | intro (_ : Int)
                 | intro (Z' : ZT)
                 | intro (_ : CI _)
                 | intro (_ : keeps _ _ _)
                 | intro (_ : _ ≤ _)
                 | intro (_ : _ = _)
                 | intro (_ : _ < _)
                 | intro (_ : _ ∨ _)))
          all_goals first
            | with_reducible rfl
            | ((with_reducible show _ = _); rfl)
            | ((with_reducible show recvG _ _); rfl)
            | with_reducible exact trivial
            | ((fail_if_success (first | (with_reducible show _ ≤ _) | (with_reducible show _ = _) | (with_reducible show _ ∨ _) | (with_reducible show _ < _) | (with_reducible show G _ _ _ _))); (refine Exists.intro _ (And.intro rfl (And.intro rfl (And.intro ?_ ?_)))) <;> with_reducible assumption)
            | ((with_reducible show G 13 _ _ _); exact hG.2 13 _ [(0, vr 18), (1, vr 53), (2, vi _)] _ _ rfl (ih13 _ _ (by assumption) (by assumption) (by refine ⟨by first | omega | (refine ⟨?_, ?_⟩ <;> (first | omega | (simp (disch := omega) only [w32_id, w64_id]; omega) | (simp (disch := omega) only [w32_id, w64_id] at *; omega) | (simp only [w32, w64] at *; omega) | exact (and32_le (by omega) (by omega)).1 | exact (and32_le (by omega) (by omega)).2 | exact (mulR (by omega) (by omega) (by omega) (by omega)).1 | exact (mulR (by omega) (by omega) (by omega) (by omega)).2 | (subst_vars; simp [upZ] at *; omega) | (subst_vars; simp [upZ] at *; simp only [w32, w64] at *; omega))) | (first | omega | (simp (disch := omega) only [w32_id, w64_id]; omega) | (simp (disch := omega) only [w32_id, w64_id] at *; omega) | (simp only [w32, w64] at *; omega) | exact (and32_le (by omega) (by omega)).1 | exact (and32_le (by omega) (by omega)).2 | exact (mulR (by omega) (by omega) (by omega) (by omega)).1 | exact (mulR (by omega) (by omega) (by omega) (by omega)).2 | (subst_vars; simp [upZ] at *; omega) | (subst_vars; simp [upZ] at *; simp only [w32, w64] at *; omega)), trivial⟩) (by first | omega | (simp (disch := omega) only [w32_id, w64_id]; omega) | (simp (disch := omega) only [w32_id, w64_id] at *; omega) | (simp only [w32, w64] at *; omega) | exact (and32_le (by omega) (by omega)).1 | exact (and32_le (by omega) (by omega)).2 | exact (mulR (by omega) (by omega) (by omega) (by omega)).1 | exact (mulR (by omega) (by omega) (by omega) (by omega)).2 | (subst_vars; simp [upZ] at *; omega) | (subst_vars; simp [upZ] at *; simp only [w32, w64] at *; omega))))
            | ((with_reducible show G 42 _ _ _); exact hG.2 42 _ [(0, vr 18), (1, vr 53), (2, vi _)] _ _ rfl (ih42 _ _ (by assumption) (by assumption) (by refine ⟨by first | omega | (refine ⟨?_, ?_⟩ <;> (first | omega | (simp (disch := omega) only [w32_id, w64_id]; omega) | (simp (disch := omega) only [w32_id, w64_id] at *; omega) | (simp only [w32, w64] at *; omega) | exact (and32_le (by omega) (by omega)).1 | exact (and32_le (by omega) (by omega)).2 | exact (mulR (by omega) (by omega) (by omega) (by omega)).1 | exact (mulR (by omega) (by omega) (by omega) (by omega)).2 | (subst_vars; simp [upZ] at *; omega) | (subst_vars; simp [upZ] at *; simp only [w32, w64] at *; omega))) | (first | omega | (simp (disch := omega) only [w32_id, w64_id]; omega) | (simp (disch := omega) only [w32_id, w64_id] at *; omega) | (simp only [w32, w64] at *; omega) | exact (and32_le (by omega) (by omega)).1 | exact (and32_le (by omega) (by omega)).2 | exact (mulR (by omega) (by omega) (by omega) (by omega)).1 | exact (mulR (by omega) (by omega) (by omega) (by omega)).2 | (subst_vars; simp [upZ] at *; omega) | (subst_vars; simp [upZ] at *; simp only [w32, w64] at *; omega)), trivial⟩) (by first | omega | (simp (disch := omega) only [w32_id, w64_id]; omega) | (simp (disch := omega) only [w32_id, w64_id] at *; omega) | (simp only [w32, w64] at *; omega) | exact (and32_le (by omega) (by omega)).1 | exact (and32_le (by omega) (by omega)).2 | exact (mulR (by omega) (by omega) (by omega) (by omega)).1 | exact (mulR (by omega) (by omega) (by omega) (by omega)).2 | (subst_vars; simp [upZ] at *; omega) | (subst_vars; simp [upZ] at *; simp only [w32, w64] at *; omega))))
            | ((with_reducible show G 83 _ _ _); exact hG.2 83 _ [(0, vr 18), (1, vr 53), (2, vi _)] _ _ rfl (ih83 _ _ (by assumption) (by assumption) (by refine ⟨by first | omega | (refine ⟨?_, ?_⟩ <;> (first | omega | (simp (disch := omega) only [w32_id, w64_id]; omega) | (simp (disch := omega) only [w32_id, w64_id] at *; omega) | (simp only [w32, w64] at *; omega) | exact (and32_le (by omega) (by omega)).1 | exact (and32_le (by omega) (by omega)).2 | exact (mulR (by omega) (by omega) (by omega) (by omega)).1 | exact (mulR (by omega) (by omega) (by omega) (by omega)).2 | (subst_vars; simp [upZ] at *; omega) | (subst_vars; simp [upZ] at *; simp only [w32, w64] at *; omega))) | (first | omega | (simp (disch := omega) only [w32_id, w64_id]; omega) | (simp (disch := omega) only [w32_id, w64_id] at *; omega) | (simp only [w32, w64] at *; omega) | exact (and32_le (by omega) (by omega)).1 | exact (and32_le (by omega) (by omega)).2 | exact (mulR (by omega) (by omega) (by omega) (by omega)).1 | exact (mulR (by omega) (by omega) (by omega) (by omega)).2 | (subst_vars; simp [upZ] at *; omega) | (subst_vars; simp [upZ] at *; simp only [w32, w64] at *; omega)), trivial⟩) (by first | omega | (simp (disch := omega) only [w32_id, w64_id]; omega) | (simp (disch := omega) only [w32_id, w64_id] at *; omega) | (simp only [w32, w64] at *; omega) | exact (and32_le (by omega) (by omega)).1 | exact (and32_le (by omega) (by omega)).2 | exact (mulR (by omega) (by omega) (by omega) (by omega)).1 | exact (mulR (by omega) (by omega) (by omega) (by omega)).2 | (subst_vars; simp [upZ] at *; omega) | (subst_vars; simp [upZ] at *; simp only [w32, w64] at *; omega))))
            | ((fail_if_success (first | (with_reducible show _ ≤ _) | (with_reducible show _ = _) | (with_reducible show _ ∨ _) | (with_reducible show _ < _) | (with_reducible show G _ _ _ _))); exact Exists.intro _ (Exists.intro _ ⟨rfl, rfl, by assumption, by assumption, by (first | omega | (simp (disch := omega) only [w32_id, w64_id]; omega) | (simp (disch := omega) only [w32_id, w64_id] at *; omega) | (simp only [w32, w64] at *; omega) | exact (and32_le (by omega) (by omega)).1 | exact (and32_le (by omega) (by omega)).2 | exact (mulR (by omega) (by omega) (by omega) (by omega)).1 | exact (mulR (by omega) (by omega) (by omega) (by omega)).2 | (subst_vars; simp [upZ] at *; omega) | (subst_vars; simp [upZ] at *; simp only [w32, w64] at *; omega)), by (first | omega | (simp (disch := omega) only [w32_id, w64_id]; omega) | (simp (disch := omega) only [w32_id, w64_id] at *; omega) | (simp only [w32, w64] at *; omega) | exact (and32_le (by omega) (by omega)).1 | exact (and32_le (by omega) (by omega)).2 | exact (mulR (by omega) (by omega) (by omega) (by omega)).1 | exact (mulR (by omega) (by omega) (by omega) (by omega)).2 | (subst_vars; simp [upZ] at *; omega) | (subst_vars; simp [upZ] at *; simp only [w32, w64] at *; omega))⟩))
            | ((fail_if_success (first | (with_reducible show _ ≤ _) | (with_reducible show _ = _) | (with_reducible show _ ∨ _) | (with_reducible show _ < _) | (with_reducible show G _ _ _ _))); exact Exists.intro _ (Exists.intro _ ⟨rfl, rfl, by assumption, by assumption⟩))
            | ((fail_if_success (first | (with_reducible show _ ≤ _) | (with_reducible show _ = _) | (with_reducible show _ ∨ _) | (with_reducible show _ < _) | (with_reducible show G _ _ _ _))); exact Exists.intro _ ⟨rfl, rfl, by assumption, by assumption⟩)
            | ((fail_if_success (first | (with_reducible show _ ≤ _) | (with_reducible show _ = _) | (with_reducible show _ ∨ _) | (with_reducible show _ < _) | (with_reducible show G _ _ _ _))); exact Or.inl (Exists.intro _ ⟨rfl, rfl, by assumption, by assumption⟩))
            | ((fail_if_success (first | (with_reducible show _ ≤ _) | (with_reducible show _ = _) | (with_reducible show _ ∨ _) | (with_reducible show _ < _) | (with_reducible show G _ _ _ _))); exact Or.inr (Exists.intro _ ⟨rfl, rfl, by assumption, by assumption⟩))
            | omega
            | rfl
            | exact trivial
            | decide
            | (show (0 : Int) < _; omega)
            | (show (0 : Int) < _; simp only [w64] at *; omega)
            | (simp only [w32, w64] at *; omega)
            | (first | omega | (simp (disch := omega) only [w32_id, w64_id]; omega) | (simp (disch := omega) only [w32_id, w64_id] at *; omega) | (simp only [w32, w64] at *; omega) | exact (and32_le (by omega) (by omega)).1 | exact (and32_le (by omega) (by omega)).2 | exact (mulR (by omega) (by omega) (by omega) (by omega)).1 | exact (mulR (by omega) (by omega) (by omega) (by omega)).2 | (subst_vars; simp [upZ] at *; omega) | (subst_vars; simp [upZ] at *; simp only [w32, w64] at *; omega))
            | skip
        · intro Z1 v2 hI1 hk1 hv hm
          obtain ⟨w0, -⟩ := hv
          clear hk hI
          refine wq_run hG n R0 [13, 42, 83] 900 _ _ _ _ ?_
          repeat' (first
              | with_reducible rfl
              | refine And.intro ?_ ?_
              | with_reducible exact True.intro
              | ((with_reducible show _ = true); rfl)
              | ((with_reducible show recvG _ _); rfl)
              | ((with_reducible show CI _); first | with_reducible assumption | assumption)
              | (fail_if_success (first | (with_reducible show _ ≤ _) | (with_reducible show _ = _) | (with_reducible show _ ∨ _) | (with_reducible show _ < _) | (with_reducible show G _ _ _ _))
                 first
                 | show G _ _ _ _
                 | (intro (Z2 : ZT) hZ2; have hZ3 : Z' = Z2 := hZ2.symm; subst hZ3)
                 | (intro (Z2 : ZT) hZ2; have hZ3 : Z1 = Z2 := hZ2.symm; subst hZ3)
                 | (intro (Z2 : ZT) hZ2; have hZ3 : Z = Z2 := hZ2.symm; subst hZ3)
                 | (refine ld_bnd (by first | with_reducible assumption | assumption) rfl ?_; intro _ _ _ _)
                 | (refine st_bnd (by first | with_reducible assumption | assumption) (by first | with_reducible assumption | assumption) (by decide) (fun lo hi hb => by first | (cases hb; done) | (cases hb; constructor <;> (first | omega | (simp (disch := omega) only [w32_id, w64_id]; omega) | (simp (disch := omega) only [w32_id, w64_id] at *; omega) | (simp only [w32, w64] at *; omega) | exact (and32_le (by omega) (by omega)).1 | exact (and32_le (by omega) (by omega)).2 | exact (mulR (by omega) (by omega) (by omega) (by omega)).1 | exact (mulR (by omega) (by omega) (by omega) (by omega)).2 | (subst_vars; simp [upZ] at *; omega) | (subst_vars; simp [upZ] at *; simp only [w32, w64] at *; omega)))) ?_; intro Z' _ _ _)
                 | (intro (r : Option PV) σ' hq
                    first
                    | (obtain ⟨rfl, rfl⟩ := hq)
                    | (obtain ⟨Z', x, rfl, rfl, hI2, hk2, hl2, hu2⟩ := hq; have hk3 := keeps_to (by first | with_reducible assumption | assumption) (by rfl) hk2; clear hk2)
                    | (obtain ⟨Z', x, rfl, rfl, hI2, hk2⟩ := hq; have hk3 := keeps_to (by first | with_reducible assumption | assumption) (by rfl) hk2; clear hk2)
                    | (rcases hq with ⟨Z', rfl, rfl, hI2, hk2⟩ | ⟨Z', rfl, rfl, hI2, hk2⟩ <;> (have hk3 := keeps_to (by first | with_reducible assumption | assumption) (by rfl) hk2; clear hk2))
                    | (obtain ⟨Z', rfl, rfl, hI2, hk2⟩ := hq; have hk3 := keeps_to (by first | with_reducible assumption | assumption) (by rfl) hk2; clear hk2))
                 | (intro hc; (try simp only [cmp3_c] at hc); simp only [cmpI] at hc)
                 | (show CI _; assumption)
                 | intro (_ : Int)
                 | intro (Z' : ZT)
                 | intro (_ : CI _)
                 | intro (_ : keeps _ _ _)
                 | intro (_ : _ ≤ _)
                 | intro (_ : _ = _)
                 | intro (_ : _ < _)
                 | intro (_ : _ ∨ _)))
          all_goals first
            | with_reducible rfl
            | ((with_reducible show _ = _); rfl)
            | ((with_reducible show recvG _ _); rfl)
            | with_reducible exact trivial
            | ((fail_if_success (first | (with_reducible show _ ≤ _) | (with_reducible show _ = _) | (with_reducible show _ ∨ _) | (with_reducible show _ < _) | (with_reducible show G _ _ _ _))); (refine Exists.intro _ (And.intro rfl (And.intro rfl (And.intro ?_ ?_)))) <;> with_reducible assumption)
            | ((with_reducible show G 13 _ _ _); exact hG.2 13 _ [(0, vr 18), (1, vr 53), (2, vi _)] _ _ rfl (ih13 _ _ (by assumption) (by assumption) (by refine ⟨by first | omega | (refine ⟨?_, ?_⟩ <;> (first | omega | (simp (disch := omega) only [w32_id, w64_id]; omega) | (simp (disch := omega) only [w32_id, w64_id] at *; omega) | (simp only [w32, w64] at *; omega) | exact (and32_le (by omega) (by omega)).1 | exact (and32_le (by omega) (by omega)).2 | exact (mulR (by omega) (by omega) (by omega) (by omega)).1 | exact (mulR (by omega) (by omega) (by omega) (by omega)).2 | (subst_vars; simp [upZ] at *; omega) | (subst_vars; simp [upZ] at *; simp only [w32, w64] at *; omega))) | (first | omega | (simp (disch := omega) only [w32_id, w64_id]; omega) | (simp (disch := omega) only [w32_id, w64_id] at *; omega) | (simp only [w32, w64] at *; omega) | exact (and32_le (by omega) (by omega)).1 | exact (and32_le (by omega) (by omega)).2 | exact (mulR (by omega) (by omega) (by omega) (by omega)).1 | exact (mulR (by omega) (by omega) (by omega) (by omega)).2 | (subst_vars; simp [upZ] at *; omega) | (subst_vars; simp [upZ] at *; simp only [w32, w64] at *; omega)), trivial⟩) (by first | omega | (simp (disch := omega) only [w32_id, w64_id]; omega) | (simp (disch := omega) only [w32_id, w64_id] at *; omega) | (simp only [w32, w64] at *; omega) | exact (and32_le (by omega) (by omega)).1 | exact (and32_le (by omega) (by omega)).2 | exact (mulR (by omega) (by omega) (by omega) (by omega)).1 | exact (mulR (by omega) (by omega) (by omega) (by omega)).2 | (subst_vars; simp [upZ] at *; omega) | (subst_vars; simp [upZ] at *; simp only [w32, w64] at *; omega))))
            | ((with_reducible show G 42 _ _ _); exact hG.2 42 _ [(0, vr 18), (1, vr 53), (2, vi _)] _ _ rfl (ih42 _ _ (by assumption) (by assumption) (by refine ⟨by first | omega | (refine ⟨?_, ?_⟩ <;> (first | omega | (simp (disch := omega) only [w32_id, w64_id]; omega) | (simp (disch := omega) only [w32_id, w64_id] at *; omega) | (simp only [w32, w64] at *; omega) | exact (and32_le (by omega) (by omega)).1 | exact (and32_le (by omega) (by omega)).2 | exact (mulR (by omega) (by omega) (by omega) (by omega)).1 | exact (mulR (by omega) (by omega) (by omega) (by omega)).2 | (subst_vars; simp [upZ] at *; omega) | (subst_vars; simp [upZ] at *; simp only [w32, w64] at *; omega))) | (first | omega | (simp (disch := omega) only [w32_id, w64_id]; omega) | (simp (disch := omega) only [w32_id, w64_id] at *; omega) | (simp only [w32, w64] at *; omega) | exact (and32_le (by omega) (by omega)).1 | exact (and32_le (by omega) (by omega)).2 | exact (mulR (by omega) (by omega) (by omega) (by omega)).1 | exact (mulR (by omega) (by omega) (by omega) (by omega)).2 | (subst_vars; simp [upZ] at *; omega) | (subst_vars; simp [upZ] at *; simp only [w32, w64] at *; omega)), trivial⟩) (by first | omega | (simp (disch := omega) only [w32_id, w64_id]; omega) | (simp (disch := omega) only [w32_id, w64_id] at *; omega) | (simp only [w32, w64] at *; omega) | exact (and32_le (by omega) (by omega)).1 | exact (and32_le (by omega) (by omega)).2 | exact (mulR (by omega) (by omega) (by omega) (by omega)).1 | exact (mulR (by omega) (by omega) (by omega) (by omega)).2 | (subst_vars; simp [upZ] at *; omega) | (subst_vars; simp [upZ] at *; simp only [w32, w64] at *; omega))))
            | ((with_reducible show G 83 _ _ _); exact hG.2 83 _ [(0, vr 18), (1, vr 53), (2, vi _)] _ _ rfl (ih83 _ _ (by assumption) (by assumption) (by refine ⟨by first | omega | (refine ⟨?_, ?_⟩ <;> (first | omega | (simp (disch := omega) only [w32_id, w64_id]; omega) | (simp (disch := omega) only [w32_id, w64_id] at *; omega) | (simp only [w32, w64] at *; omega) | exact (and32_le (by omega) (by omega)).1 | exact (and32_le (by omega) (by omega)).2 | exact (mulR (by omega) (by omega) (by omega) (by omega)).1 | exact (mulR (by omega) (by omega) (by omega) (by omega)).2 | (subst_vars; simp [upZ] at *; omega) | (subst_vars; simp [upZ] at *; simp only [w32, w64] at *; omega))) | (first | omega | (simp (disch := omega) only [w32_id, w64_id]; omega) | (simp (disch := omega) only [w32_id, w64_id] at *; omega) | (simp only [w32, w64] at *; omega) | exact (and32_le (by omega) (by omega)).1 | exact (and32_le (by omega) (by omega)).2 | exact (mulR (by omega) (by omega) (by omega) (by omega)).1 | exact (mulR (by omega) (by omega) (by omega) (by omega)).2 | (subst_vars; simp [upZ] at *; omega) | (subst_vars; simp [upZ] at *; simp only [w32, w64] at *; omega)), trivial⟩) (by first | omega | (simp (disch := omega) only [w32_id, w64_id]; omega) | (simp (disch := omega) only [w32_id, w64_id] at *; omega) | (simp only [w32, w64] at *; omega) | exact (and32_le (by omega) (by omega)).1 | exact (and32_le (by omega) (by omega)).2 | exact (mulR (by omega) (by omega) (by omega) (by omega)).1 | exact (mulR (by omega) (by omega) (by omega) (by omega)).2 | (subst_vars; simp [upZ] at *; omega) | (subst_vars; simp [upZ] at *; simp only [w32, w64] at *; omega))))
            | ((fail_if_success (first | (with_reducible show _ ≤ _) | (with_reducible show _ = _) | (with_reducible show _ ∨ _) | (with_reducible show _ < _) | (with_reducible show G _ _ _ _))); exact Exists.intro _ (Exists.intro _ ⟨rfl, rfl, by assumption, by assumption, by (first | omega | (simp (disch := omega) only [w32_id, w64_id]; omega) | (simp (disch := omega) only [w32_id, w64_id] at *; omega) | (simp only [w32, w64] at *; omega) | exact (and32_le (by omega) (by omega)).1 | exact (and32_le (by omega) (by omega)).2 | exact (mulR (by omega) (by omega) (by omega) (by omega)).1 | exact (mulR (by omega) (by omega) (by omega) (by omega)).2 | (subst_vars; simp [upZ] at *; omega) | (subst_vars; simp [upZ] at *; simp only [w32, w64] at *; omega)), by (first | omega | (simp (disch := omega) only [w32_id, w64_id]; omega) | (simp (disch := omega) only [w32_id, w64_id] at *; omega) | (simp only [w32, w64] at *; omega) | exact (and32_le (by omega) (by omega)).1 | exact (and32_le (by omega) (by omega)).2 | exact (mulR (by omega) (by omega) (by omega) (by omega)).1 | exact (mulR (by omega) (by omega) (by omega) (by omega)).2 | (subst_vars; simp [upZ] at *; omega) | (subst_vars; simp [upZ] at *; simp only [w32, w64] at *; omega))⟩))
            | ((fail_if_success (first | (with_reducible show _ ≤ _) | (with_reducible show _ = _) | (with_reducible show _ ∨ _) | (with_reducible show _ < _) | (with_reducible show G _ _ _ _))); exact Exists.intro _ (Exists.intro _ ⟨rfl, rfl, by assumption, by assumption⟩))
            | ((fail_if_success (first | (with_reducible show _ ≤ _) | (with_reducible show _ = _) | (with_reducible show _ ∨ _) | (with_reducible show _ < _) | (with_reducible show G _ _ _ _))); exact Exists.intro _ ⟨rfl, rfl, by assumption, by assumption⟩)
            | ((fail_if_success (first | (with_reducible show _ ≤ _) | (with_reducible show _ = _) | (with_reducible show _ ∨ _) | (with_reducible show _ < _) | (with_reducible show G _ _ _ _))); exact Or.inl (Exists.intro _ ⟨rfl, rfl, by assumption, by assumption⟩))
            | ((fail_if_success (first | (with_reducible show _ ≤ _) | (with_reducible show _ = _) | (with_reducible show _ ∨ _) | (with_reducible show _ < _) | (with_reducible show G _ _ _ _))); exact Or.inr (Exists.intro _ ⟨rfl, rfl, by assumption, by assumption⟩))
            | omega
            | rfl
            | exact trivial
            | decide
            | (show (0 : Int) < _; omega)
            | (show (0 : Int) < _; simp only [w64] at *; omega)
            | (simp only [w32, w64] at *; omega)
            | (first | omega | (simp (disch := omega) only [w32_id, w64_id]; omega) | (simp (disch := omega) only [w32_id, w64_id] at *; omega) | (simp only [w32, w64] at *; omega) | exact (and32_le (by omega) (by omega)).1 | exact (and32_le (by omega) (by omega)).2 | exact (mulR (by omega) (by omega) (by omega) (by omega)).1 | exact (mulR (by omega) (by omega) (by omega) (by omega)).2 | (subst_vars; simp [upZ] at *; omega) | (subst_vars; simp [upZ] at *; simp only [w32, w64] at *; omega))
            | skip
    refine wq_run hG n R0 [13, 42, 83] 900 _ _ _ _ ?_
    repeat' (first
        | with_reducible rfl
        | refine And.intro ?_ ?_
        | with_reducible exact True.intro
        | ((with_reducible show _ = true); rfl)
        | ((with_reducible show recvG _ _); rfl)
        | ((with_reducible show CI _); first | with_reducible assumption | assumption)
        | (fail_if_success (first | (with_reducible show _ ≤ _) | (with_reducible show _ = _) | (with_reducible show _ ∨ _) | (with_reducible show _ < _) | (with_reducible show G _ _ _ _))
           first
           | show G _ _ _ _
           | (intro (Z2 : ZT) hZ2; have hZ3 : Z' = Z2 := hZ2.symm; subst hZ3)
           | (intro (Z2 : ZT) hZ2; have hZ3 : Z1 = Z2 := hZ2.symm; subst hZ3)
           | (intro (Z2 : ZT) hZ2; have hZ3 : Z = Z2 := hZ2.symm; subst hZ3)
           | (refine ld_bnd (by first | with_reducible assumption | assumption) rfl ?_; intro _ _ _ _)
           | (refine st_bnd (by first | with_reducible assumption | assumption) (by first | with_reducible assumption | assumption) (by decide) (fun lo hi hb => by first | (cases hb; done) | (cases hb; constructor <;> (first | omega | (simp (disch := omega) only [w32_id, w64_id]; omega) | (simp (disch := omega) only [w32_id, w64_id] at *; omega) | (simp only [w32, w64] at *; omega) | exact (and32_le (by omega) (by omega)).1 | exact (and32_le (by omega) (by omega)).2 | exact (mulR (by omega) (by omega) (by omega) (by omega)).1 | exact (mulR (by omega) (by omega) (by omega) (by omega)).2 | (subst_vars; simp [upZ] at *; omega) | (subst_vars; simp [upZ] at *; simp only [w32, w64] at *; omega)))) ?_; intro Z' _ _ _)
           | (intro (r : Option PV) σ' hq
              first
              | (obtain ⟨rfl, rfl⟩ := hq)
              | (obtain ⟨Z', x, rfl, rfl, hI2, hk2, hl2, hu2⟩ := hq; have hk3 := keeps_to (by first | with_reducible assumption | assumption) (by rfl) hk2; clear hk2)
              | (obtain ⟨Z', x, rfl, rfl, hI2, hk2⟩ := hq; have hk3 := keeps_to (by first | with_reducible assumption | assumption) (by rfl) hk2; clear hk2)
              | (rcases hq with ⟨Z', rfl, rfl, hI2, hk2⟩ | ⟨Z', rfl, rfl, hI2, hk2⟩ <;> (have hk3 := keeps_to (by first | with_reducible assumption | assumption) (by rfl) hk2; clear hk2))
              | (obtain ⟨Z', rfl, rfl, hI2, hk2⟩ := hq; have hk3 := keeps_to (by first | with_reducible assumption | assumption) (by rfl) hk2; clear hk2))
           | (intro hc; (try simp only [cmp3_c] at hc); simp only [cmpI] at hc)
           | (show CI _; assumption)
           | intro (_ : Int)
           | intro (Z' : ZT)
           | intro (_ : CI _)
           | intro (_ : keeps _ _ _)
           | intro (_ : _ ≤ _)
           | intro (_ : _ = _)
           | intro (_ : _ < _)
           | intro (_ : _ ∨ _)))
    all_goals (try obtain ⟨lp13, lp42, lp83⟩ := loop 1000000)
    all_goals first
      | with_reducible rfl
      | ((with_reducible show _ = _); rfl)
      | ((with_reducible show recvG _ _); rfl)
      | with_reducible exact trivial
      | ((fail_if_success (first | (with_reducible show _ ≤ _) | (with_reducible show _ = _) | (with_reducible show _ ∨ _) | (with_reducible show _ < _) | (with_reducible show G _ _ _ _))); (refine Exists.intro _ (And.intro rfl (And.intro rfl (And.intro ?_ ?_)))) <;> with_reducible assumption)
      | ((with_reducible show G 13 _ _ _); exact hG.2 13 _ [(0, vr 18), (1, vr 53), (2, vi _)] _ _ rfl (lp13 _ _ (by assumption) (by assumption) (by refine ⟨by first | omega | (refine ⟨?_, ?_⟩ <;> (first | omega | (simp (disch := omega) only [w32_id, w64_id]; omega) | (simp (disch := omega) only [w32_id, w64_id] at *; omega) | (simp only [w32, w64] at *; omega) | exact (and32_le (by omega) (by omega)).1 | exact (and32_le (by omega) (by omega)).2 | exact (mulR (by omega) (by omega) (by omega) (by omega)).1 | exact (mulR (by omega) (by omega) (by omega) (by omega)).2 | (subst_vars; simp [upZ] at *; omega) | (subst_vars; simp [upZ] at *; simp only [w32, w64] at *; omega))) | (first | omega | (simp (disch := omega) only [w32_id, w64_id]; omega) | (simp (disch := omega) only [w32_id, w64_id] at *; omega) | (simp only [w32, w64] at *; omega) | exact (and32_le (by omega) (by omega)).1 | exact (and32_le (by omega) (by omega)).2 | exact (mulR (by omega) (by omega) (by omega) (by omega)).1 | exact (mulR (by omega) (by omega) (by omega) (by omega)).2 | (subst_vars; simp [upZ] at *; omega) | (subst_vars; simp [upZ] at *; simp only [w32, w64] at *; omega)), trivial⟩) (by first | omega | (simp (disch := omega) only [w32_id, w64_id]; omega) | (simp (disch := omega) only [w32_id, w64_id] at *; omega) | (simp only [w32, w64] at *; omega) | exact (and32_le (by omega) (by omega)).1 | exact (and32_le (by omega) (by omega)).2 | exact (mulR (by omega) (by omega) (by omega) (by omega)).1 | exact (mulR (by omega) (by omega) (by omega) (by omega)).2 | (subst_vars; simp [upZ] at *; omega) | (subst_vars; simp [upZ] at *; simp only [w32, w64] at *; omega))))
      | ((with_reducible show G 42 _ _ _); exact hG.2 42 _ [(0, vr 18), (1, vr 53), (2, vi _)] _ _ rfl (lp42 _ _ (by assumption) (by assumption) (by refine ⟨by first | omega | (refine ⟨?_, ?_⟩ <;> (first | omega | (simp (disch := omega) only [w32_id, w64_id]; omega) | (simp (disch := omega) only [w32_id, w64_id] at *; omega) | (simp only [w32, w64] at *; omega) | exact (and32_le (by omega) (by omega)).1 | exact (and32_le (by omega) (by omega)).2 | exact (mulR (by omega) (by omega) (by omega) (by omega)).1 | exact (mulR (by omega) (by omega) (by omega) (by omega)).2 | (subst_vars; simp [upZ] at *; omega) | (subst_vars; simp [upZ] at *; simp only [w32, w64] at *; omega))) | (first | omega | (simp (disch := omega) only [w32_id, w64_id]; omega) | (simp (disch := omega) only [w32_id, w64_id] at *; omega) | (simp only [w32, w64] at *; omega) | exact (and32_le (by omega) (by omega)).1 | exact (and32_le (by omega) (by omega)).2 | exact (mulR (by omega) (by omega) (by omega) (by omega)).1 | exact (mulR (by omega) (by omega) (by omega) (by omega)).2 | (subst_vars; simp [upZ] at *; omega) | (subst_vars; simp [upZ] at *; simp only [w32, w64] at *; omega)), trivial⟩) (by first | omega | (simp (disch := omega) only [w32_id, w64_id]; omega) | (simp (disch := omega) only [w32_id, w64_id] at *; omega) | (simp only [w32, w64] at *; omega) | exact (and32_le (by omega) (by omega)).1 | exact (and32_le (by omega) (by omega)).2 | exact (mulR (by omega) (by omega) (by omega) (by omega)).1 | exact (mulR (by omega) (by omega) (by omega) (by omega)).2 | (subst_vars; simp [upZ] at *; omega) | (subst_vars; simp [upZ] at *; simp only [w32, w64] at *; omega))))
      | ((with_reducible show G 83 _ _ _); exact hG.2 83 _ [(0, vr 18), (1, vr 53), (2, vi _)] _ _ rfl (lp83 _ _ (by assumption) (by assumption) (by refine ⟨by first | omega | (refine ⟨?_, ?_⟩ <;> (first | omega | (simp (disch := omega) only [w32_id, w64_id]; omega) | (simp (disch := omega) only [w32_id, w64_id] at *; omega) | (simp only [w32, w64] at *; omega) | exact (and32_le (by omega) (by omega)).1 | exact (and32_le (by omega) (by omega)).2 | exact (mulR (by omega) (by omega) (by omega) (by omega)).1 | exact (mulR (by omega) (by omega) (by omega) (by omega)).2 | (subst_vars; simp [upZ] at *; omega) | (subst_vars; simp [upZ] at *; simp only [w32, w64] at *; omega))) | (first | omega | (simp (disch := omega) only [w32_id, w64_id]; omega) | (simp (disch := omega) only [w32_id, w64_id] at *; omega) | (simp only [w32, w64] at *; omega) | exact (and32_le (by omega) (by omega)).1 | exact (and32_le (by omega) (by omega)).2 | exact (mulR (by omega) (by omega) (by omega) (by omega)).1 | exact (mulR (by omega) (by omega) (by omega) (by omega)).2 | (subst_vars; simp [upZ] at *; omega) | (subst_vars; simp [upZ] at *; simp only [w32, w64] at *; omega)), trivial⟩) (by first | omega | (simp (disch := omega) only [w32_id, w64_id]; omega) | (simp (disch := omega) only [w32_id, w64_id] at *; omega) | (simp only [w32, w64] at *; omega) | exact (and32_le (by omega) (by omega)).1 | exact (and32_le (by omega) (by omega)).2 | exact (mulR (by omega) (by omega) (by omega) (by omega)).1 | exact (mulR (by omega) (by omega) (by omega) (by omega)).2 | (subst_vars; simp [upZ] at *; omega) | (subst_vars; simp [upZ] at *; simp only [w32, w64] at *; omega))))
      | ((fail_if_success (first | (with_reducible show _ ≤ _) | (with_reducible show _ = _) | (with_reducible show _ ∨ _) | (with_reducible show _ < _) | (with_reducible show G _ _ _ _))); exact Exists.intro _ (Exists.intro _ ⟨rfl, rfl, by assumption, by assumption, by (first | omega | (simp (disch := omega) only [w32_id, w64_id]; omega) | (simp (disch := omega) only [w32_id, w64_id] at *; omega) | (simp only [w32, w64] at *; omega) | exact (and32_le (by omega) (by omega)).1 | exact (and32_le (by omega) (by omega)).2 | exact (mulR (by omega) (by omega) (by omega) (by omega)).1 | exact (mulR (by omega) (by omega) (by omega) (by omega)).2 | (subst_vars; simp [upZ] at *; omega) | (subst_vars; simp [upZ] at *; simp only [w32, w64] at *; omega)), by (first | omega | (simp (disch := omega) only [w32_id, w64_id]; omega) | (simp (disch := omega) only [w32_id, w64_id] at *; omega) | (simp only [w32, w64] at *; omega) | exact (and32_le (by omega) (by omega)).1 | exact (and32_le (by omega) (by omega)).2 | exact (mulR (by omega) (by omega) (by omega) (by omega)).1 | exact (mulR (by omega) (by omega) (by omega) (by omega)).2 | (subst_vars; simp [upZ] at *; omega) | (subst_vars; simp [upZ] at *; simp only [w32, w64] at *; omega))⟩))
      | ((fail_if_success (first | (with_reducible show _ ≤ _) | (with_reducible show _ = _) | (with_reducible show _ ∨ _) | (with_reducible show _ < _) | (with_reducible show G _ _ _ _))); exact Exists.intro _ (Exists.intro _ ⟨rfl, rfl, by assumption, by assumption⟩))
      | ((fail_if_success (first | (with_reducible show _ ≤ _) | (with_reducible show _ = _) | (with_reducible show _ ∨ _) | (with_reducible show _ < _) | (with_reducible show G _ _ _ _))); exact Exists.intro _ ⟨rfl, rfl, by assumption, by assumption⟩)
      | ((fail_if_success (first | (with_reducible show _ ≤ _) | (with_reducible show _ = _) | (with_reducible show _ ∨ _) | (with_reducible show _ < _) | (with_reducible show G _ _ _ _))); exact Or.inl (Exists.intro _ ⟨rfl, rfl, by assumption, by assumption⟩))
      | ((fail_if_success (first | (with_reducible show _ ≤ _) | (with_reducible show _ = _) | (with_reducible show _ ∨ _) | (with_reducible show _ < _) | (with_reducible show G _ _ _ _))); exact Or.inr (Exists.intro _ ⟨rfl, rfl, by assumption, by assumption⟩))
      | omega
      | rfl
      | exact trivial
      | decide
      | (show (0 : Int) < _; omega)
      | (show (0 : Int) < _; simp only [w64] at *; omega)
      | (simp only [w32, w64] at *; omega)
      | (first | omega | (simp (disch := omega) only [w32_id, w64_id]; omega) | (simp (disch := omega) only [w32_id, w64_id] at *; omega) | (simp only [w32, w64] at *; omega) | exact (and32_le (by omega) (by omega)).1 | exact (and32_le (by omega) (by omega)).2 | exact (mulR (by omega) (by omega) (by omega) (by omega)).1 | exact (mulR (by omega) (by omega) (by omega) (by omega)).2 | (subst_vars; simp [upZ] at *; omega) | (subst_vars; simp [upZ] at *; simp only [w32, w64] at *; omega))
      | skip
  · have loop : ∀ fuel : Nat, (∀ (Z1 : ZT) (v2 : Int), CI Z1 → keeps ([36, 36 + 1, 36 + 2, 36 + 3, 36 + 4, 36 + 5, 36 + 6, 36 + 7, 36 + 8, 36 + 9, 36 + 10, 36 + 11, 36 + 12, 36 + 13, 36 + 14, 36 + 15, 36 + 16]) Z Z1 → ((0 ≤ v2 ∧ v2 ≤ 144) ∧ True) → 1000 - v2 ≤ (fuel : Int) → G 13 [(0, vr 36), (1, vr 18), (2, vi v2)] [] (n, Z1, R0)) ∧ (∀ (Z1 : ZT) (v2 : Int), CI Z1 → keeps ([36, 36 + 1, 36 + 2, 36 + 3, 36 + 4, 36 + 5, 36 + 6, 36 + 7, 36 + 8, 36 + 9, 36 + 10, 36 + 11, 36 + 12, 36 + 13, 36 + 14, 36 + 15, 36 + 16]) Z Z1 → ((0 ≤ v2 ∧ v2 ≤ 4) ∧ True) → 500 - v2 ≤ (fuel : Int) → G 42 [(0, vr 36), (1, vr 18), (2, vi v2)] [] (n, Z1, R0)) ∧ (∀ (Z1 : ZT) (v2 : Int), CI Z1 → keeps ([36, 36 + 1, 36 + 2, 36 + 3, 36 + 4, 36 + 5, 36 + 6, 36 + 7, 36 + 8, 36 + 9, 36 + 10, 36 + 11, 36 + 12, 36 + 13, 36 + 14, 36 + 15, 36 + 16]) Z Z1 → ((0 ≤ v2 ∧ v2 ≤ 12) ∧ True) → 13 - v2 ≤ (fuel : Int) → G 83 [(0, vr 36), (1, vr 18), (2, vi v2)] [] (n, Z1, R0)) := by
      intro fuel
      induction fuel with
      | zero => exact ⟨(by intros; omega), (by intros; omega), (by intros; omega)⟩
      | succ fuel ih =>
        obtain ⟨ih13, ih42, ih83⟩ := ih
        refine ⟨?_, ?_, ?_⟩
        · intro Z1 v2 hI1 hk1 hv hm
          obtain ⟨w0, -⟩ := hv
          clear hk hI
          refine wq_run hG n R0 [13, 42, 83] 900 _ _ _ _ ?_
          repeat' (first
              | with_reducible rfl
              | refine And.intro ?_ ?_
              | with_reducible exact True.intro
              | ((with_reducible show _ = true); rfl)
              | ((with_reducible show recvG _ _); rfl)
              | ((with_reducible show CI _); first | with_reducible assumption | assumption)
              | (fail_if_success (first | (with_reducible show _ ≤ _) | (with_reducible show _ = _) | (with_reducible show _ ∨ _) | (with_reducible show _ < _) | (with_reducible show G _ _ _ _))
                 first
                 | show G _ _ _ _
                 | (intro (Z2 : ZT) hZ2; have hZ3 : Z' = Z2 := hZ2.symm; subst hZ3)
                 | (intro (Z2 : ZT) hZ2; have hZ3 : Z1 = Z2 := hZ2.symm; subst hZ3)
                 | (intro (Z2 : ZT) hZ2; have hZ3 : Z = Z2 := hZ2.symm; subst hZ3)
                 | (refine ld_bnd (by first | with_reducible assumption | assumption) rfl ?_; intro _ _ _ _)
                 | (refine st_bnd (by first | with_reducible assumption | assumption) (by first | with_reducible assumption | assumption) (by decide) (fun lo hi hb => by first | (cases hb; done) | (cases hb; constructor <;> (first | omega | (simp (disch := omega) only [w32_id, w64_id]; omega) | (simp (disch := omega) only [w32_id, w64_id] at *; omega) | (simp only [w32, w64] at *; omega) | exact (and32_le (by omega) (by omega)).1 | exact (and32_le (by omega) (by omega)).2 | exact (mulR (by omega) (by omega) (by omega) (by omega)).1 | exact (mulR (by omega) (by omega) (by omega) (by omega)).2 | (subst_vars; simp [upZ] at *; omega) | (subst_vars; simp [upZ] at *; simp only [w32, w64] at *; omega)))) ?_; intro Z' _ _ _)
                 | (intro (r : Option PV) σ' hq
                    first
                    | (obtain ⟨rfl, rfl⟩ := hq)
                    | (obtain ⟨Z', x, rfl, rfl, hI2, hk2, hl2, hu2⟩ := hq; have hk3 := keeps_to (by first | with_reducible assumption | assumption) (by rfl) hk2; clear hk2)
                    | (obtain ⟨Z', x, rfl, rfl, hI2, hk2⟩ := hq; have hk3 := keeps_to (by first | with_reducible assumption | assumption) (by rfl) hk2; clear hk2)
                    | (rcases hq with ⟨Z', rfl, rfl, hI2, hk2⟩ | ⟨Z', rfl, rfl, hI2, hk2⟩ <;> (have hk3 := keeps_to (by first | with_reducible assumption | assumption) (by rfl) hk2; clear hk2))
                    | (obtain ⟨Z', rfl, rfl, hI2, hk2⟩ := hq; have hk3 := keeps_to (by first | with_reducible assumption | assumption) (by rfl) hk2; clear hk2))
                 | (intro hc; (try simp only [cmp3_c] at hc); simp only [cmpI] at hc)
                 | (show CI _; assumption)
                 | intro (_ : Int)
                 | intro (Z' : ZT)
                 | intro (_ : CI _)
                 | intro (_ : keeps _ _ _)
                 | intro (_ : _ ≤ _)
                 | intro (_ : _ = _)
                 | intro (_ : _ < _)
                 | intro (_ : _ ∨ _)))
          all_goals first
            | with_reducible rfl
            | ((with_reducible show _ = _); rfl)
            | ((with_reducible show recvG _ _); rfl)
            | with_reducible exact trivial
            | ((fail_if_success (first | (with_reducible show _ ≤ _) | (with_reducible show _ = _) | (with_reducible show _ ∨ _) | (with_reducible show _ < _) | (with_reducible show G _ _ _ _))); (refine Exists.intro _ (And.intro rfl (And.intro rfl (And.intro ?_ ?_)))) <;> with_reducible assumption)
            | ((with_reducible show G 13 _ _ _); exact hG.2 13 _ [(0, vr 36), (1, vr 18), (2, vi _)] _ _ rfl (ih13 _ _ (by assumption) (by assumption) (by refine ⟨by first | omega | (refine ⟨?_, ?_⟩ <;> (first | omega | (simp (disch := omega) only [w32_id, w64_id]; omega) | (simp (disch := omega) only [w32_id, w64_id] at *; omega) | (simp only [w32, w64] at *; omega) | exact (and32_le (by omega) (by omega)).1 | exact (and32_le (by omega) (by omega)).2 | exact (mulR (by omega) (by omega) (by omega) (by omega)).1 | exact (mulR (by omega) (by omega) (by omega) (by omega)).2 | (subst_vars; simp [upZ] at *; omega) | (subst_vars; simp [upZ] at *; simp only [w32, w64] at *; omega))) | (first | omega | (simp (disch := omega) only [w32_id, w64_id]; omega) | (simp (disch := omega) only [w32_id, w64_id] at *; omega) | (simp only [w32, w64] at *; omega) | exact (and32_le (by omega) (by omega)).1 | exact (and32_le (by omega) (by omega)).2 | exact (mulR (by omega) (by omega) (by omega) (by omega)).1 | exact (mulR (by omega) (by omega) (by omega) (by omega)).2 | (subst_vars; simp [upZ] at *; omega) | (subst_vars; simp [upZ] at *; simp only [w32, w64] at *; omega)), trivial⟩) (by first | omega | (simp (disch := omega) only [w32_id, w64_id]; omega) | (simp (disch := omega) only [w32_id, w64_id] at *; omega) | (simp only [w32, w64] at *; omega) | exact (and32_le (by omega) (by omega)).1 | exact (and32_le (by omega) (by omega)).2 | exact (mulR (by omega) (by omega) (by omega) (by omega)).1 | exact (mulR (by omega) (by omega) (by omega) (by omega)).2 | (subst_vars; simp [upZ] at *; omega) | (subst_vars; simp [upZ] at *; simp only [w32, w64] at *; omega))))
            | ((with_reducible show G 42 _ _ _); exact hG.2 42 _ [(0, vr 36), (1, vr 18), (2, vi _)] _ _ rfl (ih42 _ _ (by assumption) (by assumption) (by refine ⟨by first | omega | (refine ⟨?_, ?_⟩ <;> (first | omega | (simp (disch := omega) only [w32_id, w64_id]; omega) | (simp (disch := omega) only [w32_id, w64_id] at *; omega) | (simp only [w32, w64] at *; omega) | exact (and32_le (by omega) (by omega)).1 | exact (and32_le (by omega) (by omega)).2 | exact (mulR (by omega) (by omega) (by omega) (by omega)).1 | exact (mulR (by omega) (by omega) (by omega) (by omega)).2 | (subst_vars; simp [upZ] at *; omega) | (subst_vars; simp [upZ] at *; simp only [w32, w64] at *; omega))) | (first | omega | (simp (disch := omega) only [w32_id, w64_id]; omega) | (simp (disch := omega) only [w32_id, w64_id] at *; omega) | (simp only [w32, w64] at *; omega) | exact (and32_le (by omega) (by omega)).1 | exact (and32_le (by omega) (by omega)).2 | exact (mulR (by omega) (by omega) (by omega) (by omega)).1 | exact (mulR (by omega) (by omega) (by omega) (by omega)).2 | (subst_vars; simp [upZ] at *; omega) | (subst_vars; simp [upZ] at *; simp only [w32, w64] at *; omega)), trivial⟩) (by first | omega | (simp (disch := omega) only [w32_id, w64_id]; omega) | (simp (disch := omega) only [w32_id, w64_id] at *; omega) | (simp only [w32, w64] at *; omega) | exact (and32_le (by omega) (by omega)).1 | exact (and32_le (by omega) (by omega)).2 | exact (mulR (by omega) (by omega) (by omega) (by omega)).1 | exact (mulR (by omega) (by omega) (by omega) (by omega)).2 | (subst_vars; simp [upZ] at *; omega) | (subst_vars; simp [upZ] at *; simp only [w32, w64] at *; omega))))
            | ((with_reducible show G 83 _ _ _); exact hG.2 83 _ [(0, vr 36), (1, vr 18), (2, vi _)] _ _ rfl (ih83 _ _ (by assumption) (by assumption) (by refine ⟨by first | omega | (refine ⟨?_, ?_⟩ <;> (first | omega | (simp (disch := omega) only [w32_id, w64_id]; omega) | (simp (disch := omega) only [w32_id, w64_id] at *; omega) | (simp only [w32, w64] at *; omega) | exact (and32_le (by omega) (by omega)).1 | exact (and32_le (by omega) (by omega)).2 | exact (mulR (by omega) (by omega) (by omega) (by omega)).1 | exact (mulR (by omega) (by omega) (by omega) (by omega)).2 | (subst_vars; simp [upZ] at *; omega) | (subst_vars; simp [upZ] at *; simp only [w32, w64] at *; omega))) | (first | omega | (simp (disch := omega) only [w32_id, w64_id]; omega) | (simp (disch := omega) only [w32_id, w64_id] at *; omega) | (simp only [w32, w64] at *; omega) | exact (and32_le (by omega) (by omega)).1 | exact (and32_le (by omega) (by omega)).2 | exact (mulR (by omega) (by omega) (by omega) (by omega)).1 | exact (mulR (by omega) (by omega) (by omega) (by omega)).2 | (subst_vars; simp [upZ] at *; omega) | (subst_vars; simp [upZ] at *; simp only [w32, w64] at *; omega)), trivial⟩) (by first | omega | (simp (disch := omega) only [w32_id, w64_id]; omega) | (simp (disch := omega) only [w32_id, w64_id] at *; omega) | (simp only [w32, w64] at *; omega) | exact (and32_le (by omega) (by omega)).1 | exact (and32_le (by omega) (by omega)).2 | exact (mulR (by omega) (by omega) (by omega) (by omega)).1 | exact (mulR (by omega) (by omega) (by omega) (by omega)).2 | (subst_vars; simp [upZ] at *; omega) | (subst_vars; simp [upZ] at *; simp only [w32, w64] at *; omega))))
            | ((fail_if_success (first | (with_reducible show _ ≤ _) | (with_reducible show _ = _) | (with_reducible show _ ∨ _) | (with_reducible show _ < _) | (with_reducible show G _ _ _ _))); exact Exists.intro _ (Exists.intro _ ⟨rfl, rfl, by assumption, by assumption, by (first | omega | (simp (disch := omega) only [w32_id, w64_id]; omega) | (simp (disch := omega) only [w32_id, w64_id] at *; omega) | (simp only [w32, w64] at *; omega) | exact (and32_le (by omega) (by omega)).1 | exact (and32_le (by omega) (by omega)).2 | exact (mulR (by omega) (by omega) (by omega) (by omega)).1 | exact (mulR (by omega) (by omega) (by omega) (by omega)).2 | (subst_vars; simp [upZ] at *; omega) | (subst_vars; simp [upZ] at *; simp only [w32, w64] at *; omega)), by (first | omega | (simp (disch := omega) only [w32_id, w64_id]; omega) | (simp (disch := omega) only [w32_id, w64_id] at *; omega) | (simp only [w32, w64] at *; omega) | exact (and32_le (by omega) (by omega)).1 | exact (and32_le (by omega) (by omega)).2 | exact (mulR (by omega) (by omega) (by omega) (by omega)).1 | exact (mulR (by omega) (by omega) (by omega) (by omega)).2 | (subst_vars; simp [upZ] at *; omega) | (subst_vars; simp [upZ] at *; simp only [w32, w64] at *; omega))⟩))
            | ((fail_if_success (first | (with_reducible show _ ≤ _) | (with_reducible show _ = _) | (with_reducible show _ ∨ _) | (with_reducible show _ < _) | (with_reducible show G _ _ _ _))); exact Exists.intro _ (Exists.intro _ ⟨rfl, rfl, by assumption, by assumption⟩))
            | ((fail_if_success (first | (with_reducible show _ ≤ _) | (with_reducible show _ = _) | (with_reducible show _ ∨ _) | (with_reducible show _ < _) | (with_reducible show G _ _ _ _))); exact Exists.intro _ ⟨rfl, rfl, by assumption, by assumption⟩)
            | ((fail_if_success (first | (with_reducible show _ ≤ _) | (with_reducible show _ = _) | (with_reducible show _ ∨ _) | (with_reducible show _ < _) | (with_reducible show G _ _ _ _))); exact Or.inl (Exists.intro _ ⟨rfl, rfl, by assumption, by assumption⟩))
            | ((fail_if_success (first | (with_reducible show _ ≤ _) | (with_reducible show _ = _) | (with_reducible show _ ∨ _) | (with_reducible show _ < _) | (with_reducible show G _ _ _ _))); exact Or.inr (Exists.intro _ ⟨rfl, rfl, by assumption, by assumption⟩))
            | omega
            | rfl
            | exact trivial
            | decide
            | (show (0 : Int) < _; omega)
            | (show (0 : Int) < _; simp only [w64] at *; omega)
            | (simp only [w32, w64] at *; omega)
            | (first | omega | (simp (disch := omega) only [w32_id, w64_id]; omega) | (simp (disch := omega) only [w32_id, w64_id] at *; omega) | (simp only [w32, w64] at *; omega) | exact (and32_le (by omega) (by omega)).1 | exact (and32_le (by omega) (by omega)).2 | exact (mulR (by omega) (by omega) (by omega) (by omega)).1 | exact (mulR (by omega) (by omega) (by omega) (by omega)).2 | (subst_vars; simp [upZ] at *; omega) | (subst_vars; simp [upZ] at *; simp only [w32, w64] at *; omega))
            | skip
        · intro Z1 v2 hI1 hk1 hv hm
          obtain ⟨w0, -⟩ := hv
          clear hk hI
          refine wq_run hG n R0 [13, 42, 83] 900 _ _ _ _ ?_
          repeat' (first
              | with_reducible rfl
              | refine And.intro ?_ ?_
              | with_reducible exact True.intro
              | ((with_reducible show _ = true); rfl)
              | ((with_reducible show recvG _ _); rfl)
              | ((with_reducible show CI _); first | with_reducible assumption | assumption)
              | (fail_if_success (first | (with_reducible show _ ≤ _) | (with_reducible show _ = _) | (with_reducible show _ ∨ _) | (with_reducible show _ < _) | (with_reducible show G _ _ _ _))
                 first
                 | show G _ _ _ _
                 | (intro (Z2 : ZT) hZ2; have hZ3 : Z' = Z2 := hZ2.symm; subst hZ3)
                 | (intro (Z2 : ZT) hZ2; have hZ3 : Z1 = Z2 := hZ2.symm; subst hZ3)
                 | (intro (Z2 : ZT) hZ2; have hZ3 : Z = Z2 := hZ2.symm; subst hZ3)
                 | (refine ld_bnd (by first | with_reducible assumption | assumption) rfl ?_; intro _ _ _ _)
                 | (refine st_bnd (by first | with_reducible assumption | assumption) (by first | with_reducible assumption | assumption) (by decide) (fun lo hi hb => by first | (cases hb; done) | (cases hb; constructor <;> (first | omega | (simp (disch := omega) only [w32_id, w64_id]; omega) | (simp (disch := omega) only [w32_id, w64_id] at *; omega) | (simp only [w32, w64] at *; omega) | exact (and32_le (by omega) (by omega)).1 | exact (and32_le (by omega) (by omega)).2 | exact (mulR (by omega) (by omega) (by omega) (by omega)).1 | exact (mulR (by omega) (by omega) (by omega) (by omega)).2 | (subst_vars; simp [upZ] at *; omega) | (subst_vars; simp [upZ] at *; simp only [w32, w64] at *; omega)))) ?_; intro Z' _ _ _)
                 | (intro (r : Option PV) σ' hq
                    first
                    | (obtain ⟨rfl, rfl⟩ := hq)
                    | (obtain ⟨Z', x, rfl, rfl, hI2, hk2, hl2, hu2⟩ := hq; have hk3 := keeps_to (by first | with_reducible assumption | assumption) (by rfl) hk2; clear hk2)
                    | (obtain ⟨Z', x, rfl, rfl, hI2, hk2⟩ := hq; have hk3 := keeps_to (by first | with_reducible assumption | assumption) (by rfl) hk2; clear hk2)
                    | (rcases hq with ⟨Z', rfl, rfl, hI2, hk2⟩ | ⟨Z', rfl, rfl, hI2, hk2⟩ <;> (have hk3 := keeps_to (by first | with_reducible assumption | assumption) (by rfl) hk2; clear hk2))
                    | (obtain ⟨Z', rfl, rfl, hI2, hk2⟩ := hq; have hk3 := keeps_to (by first | with_reducible assumption | assumption) (by rfl) hk2; clear hk2))
                 | (intro hc; (try simp only [cmp3_c] at hc); simp only [cmpI] at hc)
                 | (show CI _; assumption)
                 | intro (_ : Int)
                 | intro (Z' : ZT)
                 | intro (_ : CI _)
                 | intro (_ : keeps _ _ _)
                 | intro (_ : _ ≤ _)
                 | intro (_ : _ = _)
                 | intro (_ : _ < _)
                 | intro (_ : _ ∨ _)))
          all_goals first
            | with_reducible rfl
            | ((with_reducible show _ = _); rfl)
            | ((with_reducible show recvG _ _); rfl)
            | with_reducible exact trivial
            | ((fail_if_success (first | (with_reducible show _ ≤ _) | (with_reducible show _ = _) | (with_reducible show _ ∨ _) | (with_reducible show _ < _) | (with_reducible show G _ _ _ _))); (refine Exists.intro _ (And.intro rfl (And.intro rfl (And.intro ?_ ?_)))) <;> with_reducible assumption)
            | ((with_reducible show G 13 _ _ _); exact hG.2 13 _ [(0, vr 36), (1, vr 18), (2, vi _)] _ _ rfl (ih13 _ _ (by assumption) (by assumption) (by refine ⟨by first | omega | (refine ⟨?_, ?_⟩ <;> (first | omega | (simp (disch := omega) only [w32_id, w64_id]; omega) | (simp (disch := omega) only [w32_id, w64_id] at *; omega) | (simp only [w32, w64] at *; omega) | exact (and32_le (by omega) (by omega)).1 | exact (and32_le (by omega) (by omega)).2 | exact (mulR (by omega) (by omega) (by omega) (by omega)).1 | exact (mulR (by omega) (by omega) (by omega) (by omega)).2 | (subst_vars; simp [upZ] at *; omega) | (subst_vars; simp [upZ] at *; simp only [w32, w64] at *; omega))) | (first | omega | (simp (disch := omega) only [w32_id, w64_id]; omega) | (simp (disch := omega) only [w32_id, w64_id] at *; omega) | (simp only [w32, w64] at *; omega) | exact (and32_le (by omega) (by omega)).1 | exact (and32_le (by omega) (by omega)).2 | exact (mulR (by omega) (by omega) (by omega) (by omega)).1 | exact (mulR (by omega) (by omega) (by omega) (by omega)).2 | (subst_vars; simp [upZ] at *; omega) | (subst_vars; simp [upZ] at *; simp only [w32, w64] at *; omega)), trivial⟩) (by first | omega | (simp (disch := omega) only [w32_id, w64_id]; omega) | (simp (disch := omega) only [w32_id, w64_id] at *; omega) | (simp only [w32, w64] at *; omega) | exact (and32_le (by omega) (by omega)).1 | exact (and32_le (by omega) (by omega)).2 | exact (mulR (by omega) (by omega) (by omega) (by omega)).1 | exact (mulR (by omega) (by omega) (by omega) (by omega)).2 | (subst_vars; simp [upZ] at *; omega) | (subst_vars; simp [upZ] at *; simp only [w32, w64] at *; omega))))
            | ((with_reducible show G 42 _ _ _); exact hG.2 42 _ [(0, vr 36), (1, vr 18), (2, vi _)] _ _ rfl (ih42 _ _ (by assumption) (by assumption) (by refine ⟨by first | omega | (refine ⟨?_, ?_⟩ <;> (first | omega | (simp (disch := omega) only [w32_id, w64_id]; omega) | (simp (disch := omega) only [w32_id, w64_id] at *; omega) | (simp only [w32, w64] at *; omega) | exact (and32_le (by omega) (by omega)).1 | exact (and32_le (by omega) (by omega)).2 | exact (mulR (by omega) (by omega) (by omega) (by omega)).1 | exact (mulR (by omega) (by omega) (by omega) (by omega)).2 | (subst_vars; simp [upZ] at *; omega) | (subst_vars; simp [upZ] at *; simp only [w32, w64] at *; omega))) | (first | omega | (simp (disch := omega) only [w32_id, w64_id]; omega) | (simp (disch := omega) only [w32_id, w64_id] at *; omega) | (simp only [w32, w64] at *; omega) | exact (and32_le (by omega) (by omega)).1 | exact (and32_le (by omega) (by omega)).2 | exact (mulR (by omega) (by omega) (by omega) (by omega)).1 | exact (mulR (by omega) (by omega) (by omega) (by omega)).2 | (subst_vars; simp [upZ] at *; omega) | (subst_vars; simp [upZ] at *; simp only [w32, w64] at *; omega)), trivial⟩) (by first | omega | (simp (disch := omega) only [w32_id, w64_id]; omega) | (simp (disch := omega) only [w32_id, w64_id] at *; omega) | (simp only [w32, w64] at *; omega) | exact (and32_le (by omega) (by omega)).1 | exact (and32_le (by omega) (by omega)).2 | exact (mulR (by omega) (by omega) (by omega) (by omega)).1 | exact (mulR (by omega) (by omega) (by omega) (by omega)).2 | (subst_vars; simp [upZ] at *; omega) | (subst_vars; simp [upZ] at *; simp only [w32, w64] at *; omega))))
            | ((with_reducible show G 83 _ _ _); exact hG.2 83 _ [(0, vr 36), (1, vr 18), (2, vi _)] _ _ rfl (ih83 _ _ (by assumption) (by assumption) (by refine ⟨by first | omega | (refine ⟨?_, ?_⟩ <;> (first | omega | (simp (disch := omega) only [w32_id, w64_id]; omega) | (simp (disch := omega) only [w32_id, w64_id] at *; omega) | (simp only [w32, w64] at *; omega) | exact (and32_le (by omega) (by omega)).1 | exact (and32_le (by omega) (by omega)).2 | exact (mulR (by omega) (by omega) (by omega) (by omega)).1 | exact (mulR (by omega) (by omega) (by omega) (by omega)).2 | (subst_vars; simp [upZ] at *; omega) | (subst_vars; simp [upZ] at *; simp only [w32, w64] at *; omega))) | (first | omega | (simp (disch := omega) only [w32_id, w64_id]; omega) | (simp (disch := omega) only [w32_id, w64_id] at *; omega) | (simp only [w32, w64] at *; omega) | exact (and32_le (by omega) (by omega)).1 | exact (and32_le (by omega) (by omega)).2 | exact (mulR (by omega) (by omega) (by omega) (by omega)).1 | exact (mulR (by omega) (by omega) (by omega) (by omega)).2 | (subst_vars; simp [upZ] at *; omega) | (subst_vars; simp [upZ] at *; simp only [w32, w64] at *; omega)), trivial⟩) (by first | omega | (simp (disch := omega) only [w32_id, w64_id]; omega) | (simp (disch := omega) only [w32_id, w64_id] at *; omega) | (simp only [w32, w64] at *; omega) | exact (and32_le (by omega) (by omega)).1 | exact (and32_le (by omega) (by omega)).2 | exact (mulR (by omega) (by omega) (by omega) (by omega)).1 | exact (mulR (by omega) (by omega) (by omega) (by omega)).2 | (subst_vars; simp [upZ] at *; omega) | (subst_vars; simp [upZ] at *; simp only [w32, w64] at *; omega))))
            | ((fail_if_success (first | (with_reducible show _ ≤ _) | (with_reducible show _ = _) | (with_reducible show _ ∨ _) | (with_reducible show _ < _) | (with_reducible show G _ _ _ _))); exact Exists.intro _ (Exists.intro _ ⟨rfl, rfl, by assumption, by assumption, by (first | omega | (simp (disch := omega) only [w32_id, w64_id]; omega) | (simp (disch := omega) only [w32_id, w64_id] at *; omega) | (simp only [w32, w64] at *; omega) | exact (and32_le (by omega) (by omega)).1 | exact (and32_le (by omega) (by omega)).2 | exact (mulR (by omega) (by omega) (by omega) (by omega)).1 | exact (mulR (by omega) (by omega) (by omega) (by omega)).2 | (subst_vars; simp [upZ] at *; omega) | (subst_vars; simp [upZ] at *; simp only [w32, w64] at *; omega)), by (first | omega | (simp (disch := omega) only [w32_id, w64_id]; omega) | (simp (disch := omega) only [w32_id, w64_id] at *; omega) | (simp only [w32, w64] at *; omega) | exact (and32_le (by omega) (by omega)).1 | exact (and32_le (by omega) (by omega)).2 | exact (mulR (by omega) (by omega) (by omega) (by omega)).1 | exact (mulR (by omega) (by omega) (by omega) (by omega)).2 | (subst_vars; simp [upZ] at *; omega) | (subst_vars; simp [upZ] at *; simp only [w32, w64] at *; omega))⟩))
            | ((fail_if_success (first | (with_reducible show _ ≤ _) | (with_reducible show _ = _) | (with_reducible show _ ∨ _) | (with_reducible show _ < _) | (with_reducible show G _ _ _ _))); exact Exists.intro _ (Exists.intro _ ⟨rfl, rfl, by assumption, by assumption⟩))
            | ((fail_if_success (first | (with_reducible show _ ≤ _) | (with_reducible show _ = _) | (with_reducible show _ ∨ _) | (with_reducible show _ < _) | (with_reducible show G _ _ _ _))); exact Exists.intro _ ⟨rfl, rfl, by assumption, by assumption⟩)
            | ((fail_if_success (first | (with_reducible show _ ≤ _) | (with_reducible show _ = _) | (with_reducible show _ ∨ _) | (with_reducible show _ < _) | (with_reducible show G _ _ _ _))); exact Or.inl (Exists.intro _ ⟨rfl, rfl, by assumption, by assumption⟩))
            | ((fail_if_success (first | (with_reducible show _ ≤ _) | (with_reducible show _ = _) | (with_reducible show _ ∨ _) | (with_reducible show _ < _) | (with_reducible show G _ _ _ _))); exact Or.inr (Exists.intro _ ⟨rfl, rfl, by assumption, by assumption⟩))
            | omega
            | rfl
            | exact trivial
            | decide
            | (show (0 : Int) < _; omega)
            | (show (0 : Int) < _; simp only [w64] at *; omega)
            | (simp only [w32, w64] at *; omega)
            | (first | omega | (simp (disch := omega) only [w32_id, w64_id]; omega) | (simp (disch := omega) only [w32_id, w64_id] at *; omega) | (simp only [w32, w64] at *; omega) | exact (and32_le (by omega) (by omega)).1 | exact (and32_le (by omega) (by omega)).2 | exact (mulR (by omega) (by omega) (by omega) (by omega)).1 | exact (mulR (by omega) (by omega) (by omega) (by omega)).2 | (subst_vars; simp [upZ] at *; omega) | (subst_vars; simp [upZ] at *; simp only [w32, w64] at *; omega))
            | skip
        · intro Z1 v2 hI1 hk1 hv hm
          obtain ⟨w0, -⟩ := hv
          clear hk hI
          refine wq_run hG n R0 [13, 42, 83] 900 _ _ _ _ ?_
          repeat' (first
              | with_reducible rfl
              | refine And.intro ?_ ?_
              | with_reducible exact True.intro
              | ((with_reducible show _ = true); rfl)
              | ((with_reducible show recvG _ _); rfl)
              | ((with_reducible show CI _); first | with_reducible assumption | assumption)
              | (fail_if_success (first | (with_reducible show _ ≤ _) | (with_reducible show _ = _) | (with_reducible show _ ∨ _) | (with_reducible show _ < _) | (with_reducible show G _ _ _ _))
                 first
                 | show G _ _ _ _
                 | (intro (Z2 : ZT) hZ2; have hZ3 : Z' = Z2 := hZ2.symm; subst hZ3)
                 | (intro (Z2 : ZT) hZ2; have hZ3 : Z1 = Z2 := hZ2.symm; subst hZ3)
                 | (intro (Z2 : ZT) hZ2; have hZ3 : Z = Z2 := hZ2.symm; subst hZ3)
                 | (refine ld_bnd (by first | with_reducible assumption | assumption) rfl ?_; intro _ _ _ _)
                 | (refine st_bnd (by first | with_reducible assumption | assumption) (by first | with_reducible assumption | assumption) (by decide) (fun lo hi hb => by first | (cases hb; done) | (cases hb; constructor <;> (first | omega | (simp (disch := omega) only [w32_id, w64_id]; omega) | (simp (disch := omega) only [w32_id, w64_id] at *; omega) | (simp only [w32, w64] at *; omega) | exact (and32_le (by omega) (by omega)).1 | exact (and32_le (by omega) (by omega)).2 | exact (mulR (by omega) (by omega) (by omega) (by omega)).1 | exact (mulR (by omega) (by omega) (by omega) (by omega)).2 | (subst_vars; simp [upZ] at *; omega) | (subst_vars; simp [upZ] at *; simp only [w32, w64] at *; omega)))) ?_; intro Z' _ _ _)
                 | (intro (r : Option PV) σ' hq
                    first
                    | (obtain ⟨rfl, rfl⟩ := hq)
                    | (obtain ⟨Z', x, rfl, rfl, hI2, hk2, hl2, hu2⟩ := hq; have hk3 := keeps_to (by first | with_reducible assumption | assumption) (by rfl) hk2; clear hk2)
                    | (obtain ⟨Z', x, rfl, rfl, hI2, hk2⟩ := hq; have hk3 := keeps_to (by first | with_reducible assumption | assumption) (by rfl) hk2; clear hk2)
                    | (rcases hq with ⟨Z', rfl, rfl, hI2, hk2⟩ | ⟨Z', rfl, rfl, hI2, hk2⟩ <;> (have hk3 := keeps_to (by first | with_reducible assumption | assumption) (by rfl) hk2; clear hk2))
                    | (obtain ⟨Z', rfl, rfl, hI2, hk2⟩ := hq; have hk3 := keeps_to (by first | with_reducible assumption | assumption) (by rfl) hk2; clear hk2))
                 | (intro hc; (try simp only [cmp3_c] at hc); simp only [cmpI] at hc)
                 | (show CI _; assumption)
                 | intro (_ : Int)
                 | intro (Z' : ZT)
                 | intro (_ : CI _)
                 | intro (_ : keeps _ _ _)
                 | intro (_ : _ ≤ _)
                 | intro (_ : _ = _)
                 | intro (_ : _ < _)
                 | intro (_ : _ ∨ _)))
          all_goals first
            | with_reducible rfl
            | ((with_reducible show _ = _); rfl)
            | ((with_reducible show recvG _ _); rfl)
            | with_reducible exact trivial
            | ((fail_if_success (first | (with_reducible show _ ≤ _) | (with_reducible show _ = _) | (with_reducible show _ ∨ _) | (with_reducible show _ < _) | (with_reducible show G _ _ _ _))); (refine Exists.intro _ (And.intro rfl (And.intro rfl (And.intro ?_ ?_)))) <;> with_reducible assumption)
            | ((with_reducible show G 13 _ _ _); exact hG.2 13 _ [(0, vr 36), (1, vr 18), (2, vi _)] _ _ rfl (ih13 _ _ (by assumption) (by assumption) (by refine ⟨by first | omega | (refine ⟨?_, ?_⟩ <;> (first | omega | (simp (disch := omega) only [w32_id, w64_id]; omega) | (simp (disch := omega) only [w32_id, w64_id] at *; omega) | (simp only [w32, w64] at *; omega) | exact (and32_le (by omega) (by omega)).1 | exact (and32_le (by omega) (by omega)).2 | exact (mulR (by omega) (by omega) (by omega) (by omega)).1 | exact (mulR (by omega) (by omega) (by omega) (by omega)).2 | (subst_vars; simp [upZ] at *; omega) | (subst_vars; simp [upZ] at *; simp only [w32, w64] at *; omega))) | (first | omega | (simp (disch := omega) only [w32_id, w64_id]; omega) | (simp (disch := omega) only [w32_id, w64_id] at *; omega) | (simp only [w32, w64] at *; omega) | exact (and32_le (by omega) (by omega)).1 | exact (and32_le (by omega) (by omega)).2 | exact (mulR (by omega) (by omega) (by omega) (by omega)).1 | exact (mulR (by omega) (by omega) (by omega) (by omega)).2 | (subst_vars; simp [upZ] at *; omega) | (subst_vars; simp [upZ] at *; simp only [w32, w64] at *; omega)), trivial⟩) (by first | omega | (simp (disch := omega) only [w32_id, w64_id]; omega) | (simp (disch := omega) only [w32_id, w64_id] at *; omega) | (simp only [w32, w64] at *; omega) | exact (and32_le (by omega) (by omega)).1 | exact (and32_le (by omega) (by omega)).2 | exact (mulR (by omega) (by omega) (by omega) (by omega)).1 | exact (mulR (by omega) (by omega) (by omega) (by omega)).2 | (subst_vars; simp [upZ] at *; omega) | (subst_vars; simp [upZ] at *; simp only [w32, w64] at *; omega))))
            | ((with_reducible show G 42 _ _ _); exact hG.2 42 _ [(0, vr 36), (1, vr 18), (2, vi _)] _ _ rfl (ih42 _ _ (by assumption) (by assumption) (by refine ⟨by first | omega | (refine ⟨?_, ?_⟩ <;> (first | omega | (simp (disch := omega) only [w32_id, w64_id]; omega) | (simp (disch := omega) only [w32_id, w64_id] at *; omega) | (simp only [w32, w64] at *; omega) | exact (and32_le (by omega) (by omega)).1 | exact (and32_le (by omega) (by omega)).2 | exact (mulR (by omega) (by omega) (by omega) (by omega)).1 | exact (mulR (by omega) (by omega) (by omega) (by omega)).2 | (subst_vars; simp [upZ] at *; omega) | (subst_vars; simp [upZ] at *; simp only [w32, w64] at *; omega))) | (first | omega | (simp (disch := omega) only [w32_id, w64_id]; omega) | (simp (disch := omega) only [w32_id, w64_id] at *; omega) | (simp only [w32, w64] at *; omega) | exact (and32_le (by omega) (by omega)).1 | exact (and32_le (by omega) (by omega)).2 | exact (mulR (by omega) (by omega) (by omega) (by omega)).1 | exact (mulR (by omega) (by omega) (by omega) (by omega)).2 | (subst_vars; simp [upZ] at *; omega) | (subst_vars; simp [upZ] at *; simp only [w32, w64] at *; omega)), trivial⟩) (by first | omega | (simp (disch := omega) only [w32_id, w64_id]; omega) | (simp (disch := omega) only [w32_id, w64_id] at *; omega) | (simp only [w32, w64] at *; omega) | exact (and32_le (by omega) (by omega)).1 | exact (and32_le (by omega) (by omega)).2 | exact (mulR (by omega) (by omega) (by omega) (by omega)).1 | exact (mulR (by omega) (by omega) (by omega) (by omega)).2 | (subst_vars; simp [upZ] at *; omega) | (subst_vars; simp [upZ] at *; simp only [w32, w64] at *; omega))))
            | ((with_reducible show G 83 _ _ _); exact hG.2 83 _ [(0, vr 36), (1, vr 18), (2, vi _)] _ _ rfl (ih83 _ _ (by assumption) (by assumption) (by refine ⟨by first | omega | (refine ⟨?_, ?_⟩ <;> (first | omega | (simp (disch := omega) only [w32_id, w64_id]; omega) | (simp (disch := omega) only [w32_id, w64_id] at *; omega) | (simp only [w32, w64] at *; omega) | exact (and32_le (by omega) (by omega)).1 | exact (and32_le (by omega) (by omega)).2 | exact (mulR (by omega) (by omega) (by omega) (by omega)).1 | exact (mulR (by omega) (by omega) (by omega) (by omega)).2 | (subst_vars; simp [upZ] at *; omega) | (subst_vars; simp [upZ] at *; simp only [w32, w64] at *; omega))) | (first | omega | (simp (disch := omega) only [w32_id, w64_id]; omega) | (simp (disch := omega) only [w32_id, w64_id] at *; omega) | (simp only [w32, w64] at *; omega) | exact (and32_le (by omega) (by omega)).1 | exact (and32_le (by omega) (by omega)).2 | exact (mulR (by omega) (by omega) (by omega) (by omega)).1 | exact (mulR (by omega) (by omega) (by omega) (by omega)).2 | (subst_vars; simp [upZ] at *; omega) | (subst_vars; simp [upZ] at *; simp only [w32, w64] at *; omega)), trivial⟩) (by first | omega | (simp (disch := omega) only [w32_id, w64_id]; omega) | (simp (disch := omega) only [w32_id, w64_id] at *; omega) | (simp only [w32, w64] at *; omega) | exact (and32_le (by omega) (by omega)).1 | exact (and32_le (by omega) (by omega)).2 | exact (mulR (by omega) (by omega) (by omega) (by omega)).1 | exact (mulR (by omega) (by omega) (by omega) (by omega)).2 | (subst_vars; simp [upZ] at *; omega) | (subst_vars; simp [upZ] at *; simp only [w32, w64] at *; omega))))
            | ((fail_if_success (first | (with_reducible show _ ≤ _) | (with_reducible show _ = _) | (with_reducible show _ ∨ _) | (with_reducible show _ < _) | (with_reducible show G _ _ _ _))); exact Exists.intro _ (Exists.intro _ ⟨rfl, rfl, by assumption, by assumption, by (first | omega | (simp (disch := omega) only [w32_id, w64_id]; omega) | (simp (disch := omega) only [w32_id, w64_id] at *; omega) | (simp only [w32, w64] at *; omega) | exact (and32_le (by omega) (by omega)).1 | exact (and32_le (by omega) (by omega)).2 | exact (mulR (by omega) (by omega) (by omega) (by omega)).1 | exact (mulR (by omega) (by omega) (by omega) (by omega)).2 | (subst_vars; simp [upZ] at *; omega) | (subst_vars; simp [upZ] at *; simp only [w32, w64] at *; omega)), by (first | omega | (simp (disch := omega) only [w32_id, w64_id]; omega) | (simp (disch := omega) only [w32_id, w64_id] at *; omega) | (simp only [w32, w64] at *; omega) | exact (and32_le (by omega) (by omega)).1 | exact (and32_le (by omega) (by omega)).2 | exact (mulR (by omega) (by omega) (by omega) (by omega)).1 | exact (mulR (by omega) (by omega) (by omega) (by omega)).2 | (subst_vars; simp [upZ] at *; omega) | (subst_vars; simp [upZ] at *; simp only [w32, w64] at *; omega))⟩))
            | ((fail_if_success (first | (with_reducible show _ ≤ _) | (with_reducible show _ = _) | (with_reducible show _ ∨ _) | (with_reducible show _ < _) | (with_reducible show G _ _ _ _))); exact Exists.intro _ (Exists.intro _ ⟨rfl, rfl, by assumption, by assumption⟩))
            | ((fail_if_success (first | (with_reducible show _ ≤ _) | (with_reducible show _ = _) | (with_reducible show _ ∨ _) | (with_reducible show _ < _) | (with_reducible show G _ _ _ _))); exact Exists.intro _ ⟨rfl, rfl, by assumption, by assumption⟩)
            | ((fail_if_success (first | (with_reducible show _ ≤ _) | (with_reducible show _ = _) | (with_reducible show _ ∨ _) | (with_reducible show _ < _) | (with_reducible show G _ _ _ _))); exact Or.inl (Exists.intro _ ⟨rfl, rfl, by assumption, by assumption⟩))
            | ((fail_if_success (first | (with_reducible show _ ≤ _) | (with_reducible show _ = _) | (with_reducible show _ ∨ _) | (with_reducible show _ < _) | (with_reducible show G _ _ _ _))); exact Or.inr (Exists.intro _ ⟨rfl, rfl, by assumption, by assumption⟩))
            | omega
            | rfl
            | exact trivial
            | decide
            | (show (0 : Int) < _; omega)
            | (show (0 : Int) < _; simp only [w64] at *; omega)
            | (simp only [w32, w64] at *; omega)
            | (first | omega | (simp (disch := omega) only [w32_id, w64_id]; omega) | (simp (disch := omega) only [w32_id, w64_id] at *; omega) | (simp only [w32, w64] at *; omega) | exact (and32_le (by omega) (by omega)).1 | exact (and32_le (by omega) (by omega)).2 | exact (mulR (by omega) (by omega) (by omega) (by omega)).1 | exact (mulR (by omega) (by omega) (by omega) (by omega)).2 | (subst_vars; simp [upZ] at *; omega) | (subst_vars; simp [upZ] at *; simp only [w32, w64] at *; omega))
            | skip
    refine wq_run hG n R0 [13, 42, 83] 900 _ _ _ _ ?_
    repeat' (first
        | with_reducible rfl
        | refine And.intro ?_ ?_
        | with_reducible exact True.intro
        | ((with_reducible show _ = true); rfl)
        | ((with_reducible show recvG _ _); rfl)
        | ((with_reducible show CI _); first | with_reducible assumption | assumption)
        | (fail_if_success (first | (with_reducible show _ ≤ _) | (with_reducible show _ = _) | (with_reducible show _ ∨ _) | (with_reducible show _ < _) | (with_reducible show G _ _ _ _))
           first
           | show G _ _ _ _
           | (intro (Z2 : ZT) hZ2; have hZ3 : Z' = Z2 := hZ2.symm; subst hZ3)
           | (intro (Z2 : ZT) hZ2; have hZ3 : Z1 = Z2 := hZ2.symm; subst hZ3)
           | (intro (Z2 : ZT) hZ2; have hZ3 : Z = Z2 := hZ2.symm; subst hZ3)
           | (refine ld_bnd (by first | with_reducible assumption | assumption) rfl ?_; intro _ _ _ _)
           | (refine st_bnd (by first | with_reducible assumption | assumption) (by first | with_reducible assumption | assumption) (by decide) (fun lo hi hb => by first | (cases hb; done) | (cases hb; constructor <;> (first | omega | (simp (disch := omega) only [w32_id, w64_id]; omega) | (simp (disch := omega) only [w32_id, w64_id] at *; omega) | (simp only [w32, w64] at *; omega) | exact (and32_le (by omega) (by omega)).1 | exact (and32_le (by omega) (by omega)).2 | exact (mulR (by omega) (by omega) (by omega) (by omega)).1 | exact (mulR (by omega) (by omega) (by omega) (by omega)).2 | (subst_vars; simp [upZ] at *; omega) | (subst_vars; simp [upZ] at *; simp only [w32, w64] at *; omega)))) ?_; intro Z' _ _ _)
           | (intro (r : Option PV) σ' hq
              first
              | (obtain ⟨rfl, rfl⟩ := hq)
              | (obtain ⟨Z', x, rfl, rfl, hI2, hk2, hl2, hu2⟩ := hq; have hk3 := keeps_to (by first | with_reducible assumption | assumption) (by rfl) hk2; clear hk2)
              | (obtain ⟨Z', x, rfl, rfl, hI2, hk2⟩ := hq; have hk3 := keeps_to (by first | with_reducible assumption | assumption) (by rfl) hk2; clear hk2)
              | (rcases hq with ⟨Z', rfl, rfl, hI2, hk2⟩ | ⟨Z', rfl, rfl, hI2, hk2⟩ <;> (have hk3 := keeps_to (by first | with_reducible assumption | assumption) (by rfl) hk2; clear hk2))
              | (obtain ⟨Z', rfl, rfl, hI2, hk2⟩ := hq; have hk3 := keeps_to (by first | with_reducible assumption | assumption) (by rfl) hk2; clear hk2))
           | (intro hc; (try simp only [cmp3_c] at hc); simp only [cmpI] at hc)
           | (show CI _; assumption)
           | intro (_ : Int)
           | intro (Z' : ZT)
           | intro (_ : CI _)
           | intro (_ : keeps _ _ _)
           | intro (_ : _ ≤ _)
           | intro (_ : _ = _)
           | intro (_ : _ < _)
           | intro (_ : _ ∨ _)))
    all_goals (try obtain ⟨lp13, lp42, lp83⟩ := loop 1000000)
    all_goals first
      | with_reducible rfl
      | ((with_reducible show _ = _); rfl)
      | ((with_reducible show recvG _ _); rfl)
      | with_reducible exact trivial
      | ((fail_if_success (first | (with_reducible show _ ≤ _) | (with_reducible show _ = _) | (with_reducible show _ ∨ _) | (with_reducible show _ < _) | (with_reducible show G _ _ _ _))); (refine Exists.intro _ (And.intro rfl (And.intro rfl (And.intro ?_ ?_)))) <;> with_reducible assumption)
      | ((with_reducible show G 13 _ _ _); exact hG.2 13 _ [(0, vr 36), (1, vr 18), (2, vi _)] _ _ rfl (lp13 _ _ (by assumption) (by assumption) (by refine ⟨by first | omega | (refine ⟨?_, ?_⟩ <;> (first | omega | (simp (disch := omega) only [w32_id, w64_id]; omega) | (simp (disch := omega) only [w32_id, w64_id] at *; omega) | (simp only [w32, w64] at *; omega) | exact (and32_le (by omega) (by omega)).1 | exact (and32_le (by omega) (by omega)).2 | exact (mulR (by omega) (by omega) (by omega) (by omega)).1 | exact (mulR (by omega) (by omega) (by omega) (by omega)).2 | (subst_vars; simp [upZ] at *; omega) | (subst_vars; simp [upZ] at *; simp only [w32, w64] at *; omega))) | (first | omega | (simp (disch := omega) only [w32_id, w64_id]; omega) | (simp (disch := omega) only [w32_id, w64_id] at *; omega) | (simp only [w32, w64] at *; omega) | exact (and32_le (by omega) (by omega)).1 | exact (and32_le (by omega) (by omega)).2 | exact (mulR (by omega) (by omega) (by omega) (by omega)).1 | exact (mulR (by omega) (by omega) (by omega) (by omega)).2 | (subst_vars; simp [upZ] at *; omega) | (subst_vars; simp [upZ] at *; simp only [w32, w64] at *; omega)), trivial⟩) (by first | omega | (simp (disch := omega) only [w32_id, w64_id]; omega) | (simp (disch := omega) only [w32_id, w64_id] at *; omega) | (simp only [w32, w64] at *; omega) | exact (and32_le (by omega) (by omega)).1 | exact (and32_le (by omega) (by omega)).2 | exact (mulR (by omega) (by omega) (by omega) (by omega)).1 | exact (mulR (by omega) (by omega) (by omega) (by omega)).2 | (subst_vars; simp [upZ] at *; omega) | (subst_vars; simp [upZ] at *; simp only [w32, w64] at *; omega))))
      | ((with_reducible show G 42 _ _ _); exact hG.2 42 _ [(0, vr 36), (1, vr 18), (2, vi _)] _ _ rfl (lp42 _ _ (by assumption) (by assumption) (by refine ⟨by first | omega | (refine ⟨?_, ?_⟩ <;> (first | omega | (simp (disch := omega) only [w32_id, w64_id]; omega) | (simp (disch := omega) only [w32_id, w64_id] at *; omega) | (simp only [w32, w64] at *; omega) | exact (and32_le (by omega) (by omega)).1 | exact (and32_le (by omega) (by omega)).2 | exact (mulR (by omega) (by omega) (by omega) (by omega)).1 | exact (mulR (by omega) (by omega) (by omega) (by omega)).2 | (subst_vars; simp [upZ] at *; omega) | (subst_vars; simp [upZ] at *; simp only [w32, w64] at *; omega))) | (first | omega | (simp (disch := omega) only [w32_id, w64_id]; omega) | (simp (disch := omega) only [w32_id, w64_id] at *; omega) | (simp only [w32, w64] at *; omega) | exact (and32_le (by omega) (by omega)).1 | exact (and32_le (by omega) (by omega)).2 | exact (mulR (by omega) (by omega) (by omega) (by omega)).1 | exact (mulR (by omega) (by omega) (by omega) (by omega)).2 | (subst_vars; simp [upZ] at *; omega) | (subst_vars; simp [upZ] at *; simp only [w32, w64] at *; omega)), trivial⟩) (by first | omega | (simp (disch := omega) only [w32_id, w64_id]; omega) | (simp (disch := omega) only [w32_id, w64_id] at *; omega) | (simp only [w32, w64] at *; omega) | exact (and32_le (by omega) (by omega)).1 | exact (and32_le (by omega) (by omega)).2 | exact (mulR (by omega) (by omega) (by omega) (by omega)).1 | exact (mulR (by omega) (by omega) (by omega) (by omega)).2 | (subst_vars; simp [upZ] at *; omega) | (subst_vars; simp [upZ] at *; simp only [w32, w64] at *; omega))))
      | ((with_reducible show G 83 _ _ _); exact hG.2 83 _ [(0, vr 36), (1, vr 18), (2, vi _)] _ _ rfl (lp83 _ _ (by assumption) (by assumption) (by refine ⟨by first | omega | (refine ⟨?_, ?_⟩ <;> (first | omega | (simp (disch := omega) only [w32_id, w64_id]; omega) | (simp (disch := omega) only [w32_id, w64_id] at *; omega) | (simp only [w32, w64] at *; omega) | exact (and32_le (by omega) (by omega)).1 | exact (and32_le (by omega) (by omega)).2 | exact (mulR (by omega) (by omega) (by omega) (by omega)).1 | exact (mulR (by omega) (by omega) (by omega) (by omega)).2 | (subst_vars; simp [upZ] at *; omega) | (subst_vars; simp [upZ] at *; simp only [w32, w64] at *; omega))) | (first | omega | (simp (disch := omega) only [w32_id, w64_id]; omega) | (simp (disch := omega) only [w32_id, w64_id] at *; omega) | (simp only [w32, w64] at *; omega) | exact (and32_le (by omega) (by omega)).1 | exact (and32_le (by omega) (by omega)).2 | exact (mulR (by omega) (by omega) (by omega) (by omega)).1 | exact (mulR (by omega) (by omega) (by omega) (by omega)).2 | (subst_vars; simp [upZ] at *; omega) | (subst_vars; simp [upZ] at *; simp only [w32, w64] at *; omega)), trivial⟩) (by first | omega | (simp (disch := omega) only [w32_id, w64_id]; omega) | (simp (disch := omega) only [w32_id, w64_id] at *; omega) | (simp only [w32, w64] at *; omega) | exact (and32_le (by omega) (by omega)).1 | exact (and32_le (by omega) (by omega)).2 | exact (mulR (by omega) (by omega) (by omega) (by omega)).1 | exact (mulR (by omega) (by omega) (by omega) (by omega)).2 | (subst_vars; simp [upZ] at *; omega) | (subst_vars; simp [upZ] at *; simp only [w32, w64] at *; omega))))
      | ((fail_if_success (first | (with_reducible show _ ≤ _) | (with_reducible show _ = _) | (with_reducible show _ ∨ _) | (with_reducible show _ < _) | (with_reducible show G _ _ _ _))); exact Exists.intro _ (Exists.intro _ ⟨rfl, rfl, by assumption, by assumption, by (first | omega | (simp (disch := omega) only [w32_id, w64_id]; omega) | (simp (disch := omega) only [w32_id, w64_id] at *; omega) | (simp only [w32, w64] at *; omega) | exact (and32_le (by omega) (by omega)).1 | exact (and32_le (by omega) (by omega)).2 | exact (mulR (by omega) (by omega) (by omega) (by omega)).1 | exact (mulR (by omega) (by omega) (by omega) (by omega)).2 | (subst_vars; simp [upZ] at *; omega) | (subst_vars; simp [upZ] at *; simp only [w32, w64] at *; omega)), by (first | omega | (simp (disch := omega) only [w32_id, w64_id]; omega) | (simp (disch := omega) only [w32_id, w64_id] at *; omega) | (simp only [w32, w64] at *; omega) | exact (and32_le (by omega) (by omega)).1 | exact (and32_le (by omega) (by omega)).2 | exact (mulR (by omega) (by omega) (by omega) (by omega)).1 | exact (mulR (by omega) (by omega) (by omega) (by omega)).2 | (subst_vars; simp [upZ] at *; omega) | (subst_vars; simp [upZ] at *; simp only [w32, w64] at *; omega))⟩))
      | ((fail_if_success (first | (with_reducible show _ ≤ _) | (with_reducible show _ = _) | (with_reducible show _ ∨ _) | (with_reducible show _ < _) | (with_reducible show G _ _ _ _))); exact Exists.intro _ (Exists.intro _ ⟨rfl, rfl, by assumption, by assumption⟩))
      | ((fail_if_success (first | (with_reducible show _ ≤ _) | (with_reducible show _ = _) | (with_reducible show _ ∨ _) | (with_reducible show _ < _) | (with_reducible show G _ _ _ _))); exact Exists.intro _ ⟨rfl, rfl, by assumption, by assumption⟩)
      | ((fail_if_success (first | (with_reducible show _ ≤ _) | (with_reducible show _ = _) | (with_reducible show _ ∨ _) | (with_reducible show _ < _) | (with_reducible show G _ _ _ _))); exact Or.inl (Exists.intro _ ⟨rfl, rfl, by assumption, by assumption⟩))
      | ((fail_if_success (first | (with_reducible show _ ≤ _) | (with_reducible show _ = _) | (with_reducible show _ ∨ _) | (with_reducible show _ < _) | (with_reducible show G _ _ _ _))); exact Or.inr (Exists.intro _ ⟨rfl, rfl, by assumption, by assumption⟩))
      | omega
      | rfl
      | exact trivial
      | decide
      | (show (0 : Int) < _; omega)
      | (show (0 : Int) < _; simp only [w64] at *; omega)
      | (simp only [w32, w64] at *; omega)
      | (first | omega | (simp (disch := omega) only [w32_id, w64_id]; omega) | (simp (disch := omega) only [w32_id, w64_id] at *; omega) | (simp only [w32, w64] at *; omega) | exact (and32_le (by omega) (by omega)).1 | exact (and32_le (by omega) (by omega)).2 | exact (mulR (by omega) (by omega) (by omega) (by omega)).1 | exact (mulR (by omega) (by omega) (by omega) (by omega)).2 | (subst_vars; simp [upZ] at *; omega) | (subst_vars; simp [upZ] at *; simp only [w32, w64] at *; omega))
      | skip
  · have loop : ∀ fuel : Nat, (∀ (Z1 : ZT) (v2 : Int), CI Z1 → keeps ([53, 53 + 1, 53 + 2, 53 + 3, 53 + 4, 53 + 5, 53 + 6, 53 + 7, 53 + 8, 53 + 9, 53 + 10, 53 + 11, 53 + 12, 53 + 13, 53 + 14, 53 + 15, 53 + 16]) Z Z1 → ((0 ≤ v2 ∧ v2 ≤ 144) ∧ True) → 1000 - v2 ≤ (fuel : Int) → G 13 [(0, vr 53), (1, vr 18), (2, vi v2)] [] (n, Z1, R0)) ∧ (∀ (Z1 : ZT) (v2 : Int), CI Z1 → keeps ([53, 53 + 1, 53 + 2, 53 + 3, 53 + 4, 53 + 5, 53 + 6, 53 + 7, 53 + 8, 53 + 9, 53 + 10, 53 + 11, 53 + 12, 53 + 13, 53 + 14, 53 + 15, 53 + 16]) Z Z1 → ((0 ≤ v2 ∧ v2 ≤ 4) ∧ True) → 500 - v2 ≤ (fuel : Int) → G 42 [(0, vr 53), (1, vr 18), (2, vi v2)] [] (n, Z1, R0)) ∧ (∀ (Z1 : ZT) (v2 : Int), CI Z1 → keeps ([53, 53 + 1, 53 + 2, 53 + 3, 53 + 4, 53 + 5, 53 + 6, 53 + 7, 53 + 8, 53 + 9, 53 + 10, 53 + 11, 53 + 12, 53 + 13, 53 + 14, 53 + 15, 53 + 16]) Z Z1 → ((0 ≤ v2 ∧ v2 ≤ 12) ∧ True) → 13 - v2 ≤ (fuel : Int) → G 83 [(0, vr 53), (1, vr 18), (2, vi v2)] [] (n, Z1, R0)) := by
      intro fuel
      induction fuel with
      | zero => exact ⟨(by intros; omega), (by intros; omega), (by intros; omega)⟩
      | succ fuel ih =>
        obtain ⟨ih13, ih42, ih83⟩ := ih
        refine ⟨?_, ?_, ?_⟩
        · intro Z1 v2 hI1 hk1 hv hm
          obtain ⟨w0, -⟩ := hv
          clear hk hI
          refine wq_run hG n R0 [13, 42, 83] 900 _ _ _ _ ?_
          repeat' (first
              | with_reducible rfl
              | refine And.intro ?_ ?_
              | with_reducible exact True.intro
              | ((with_reducible show _ = true); rfl)
              | ((with_reducible show recvG _ _); rfl)
              | ((with_reducible show CI _); first | with_reducible assumption | assumption)
              | (fail_if_success (first | (with_reducible show _ ≤ _) | (with_reducible show _ = _) | (with_reducible show _ ∨ _) | (with_reducible show _ < _) | (with_reducible show G _ _ _ _))
                 first
                 | show G _ _ _ _
                 | (intro (Z2 : ZT) hZ2; have hZ3 : Z' = Z2 := hZ2.symm; subst hZ3)
                 | (intro (Z2 : ZT) hZ2; have hZ3 : Z1 = Z2 := hZ2.symm; subst hZ3)
                 | (intro (Z2 : ZT) hZ2; have hZ3 : Z = Z2 := hZ2.symm; subst hZ3)
                 | (refine ld_bnd (by first | with_reducible assumption | assumption) rfl ?_; intro _ _ _ _)
                 | (refine st_bnd (by first | with_reducible assumption | assumption) (by first | with_reducible assumption | assumption) (by decide) (fun lo hi hb => by first | (cases hb; done) | (cases hb; constructor <;> (first | omega | (simp (disch := omega) only [w32_id, w64_id]; omega) | (simp (disch := omega) only [w32_id, w64_id] at *; omega) | (simp only [w32, w64] at *; omega) | exact (and32_le (by omega) (by omega)).1 | exact (and32_le (by omega) (by omega)).2 | exact (mulR (by omega) (by omega) (by omega) (by omega)).1 | exact (mulR (by omega) (by omega) (by omega) (by omega)).2 | (subst_vars; simp [upZ] at *; omega) | (subst_vars; simp [upZ] at *; simp only [w32, w64] at *; omega)))) ?_; intro Z' _ _ _)
                 | (intro (r : Option PV) σ' hq
                    first
                    | (obtain ⟨rfl, rfl⟩ := hq)
                    | (obtain ⟨Z', x, rfl, rfl, hI2, hk2, hl2, hu2⟩ := hq; have hk3 := keeps_to (by first | with_reducible assumption | assumption) (by rfl) hk2; clear hk2)
                    | (obtain ⟨Z', x, rfl, rfl, hI2, hk2⟩ := hq; have hk3 := keeps_to (by first | with_reducible assumption | assumption) (by rfl) hk2; clear hk2)
                    | (rcases hq with ⟨Z', rfl, rfl, hI2, hk2⟩ | ⟨Z', rfl, rfl, hI2, hk2⟩ <;> (have hk3 := keeps_to (by first | with_reducible assumption | assumption) (by rfl) hk2; clear hk2))
                    | (obtain ⟨Z', rfl, rfl, hI2, hk2⟩ := hq; have hk3 := keeps_to (by first | with_reducible assumption | assumption) (by rfl) hk2; clear hk2))
                 | (intro hc; (try simp only [cmp3_c] at hc); simp only [cmpI] at hc)
                 | (show CI _; assumption)
                 | intro (_ : Int)
                 | intro (Z' : ZT)
                 | intro (_ : CI _)
                 | intro (_ : keeps _ _ _)
                 | intro (_ : _ ≤ _)
                 | intro (_ : _ = _)
                 | intro (_ : _ < _)
                 | intro (_ : _ ∨ _)))
          all_goals first
            | with_reducible rfl
            | ((with_reducible show _ = _); rfl)
            | ((with_reducible show recvG _ _); rfl)
            | with_reducible exact trivial
            | ((fail_if_success (first | (with_reducible show _ ≤ _) | (with_reducible show _ = _) | (with_reducible show _ ∨ _) | (with_reducible show _ < _) | (with_reducible show G _ _ _ _))); (refine Exists.intro _ (And.intro rfl (And.intro rfl (And.intro ?_ ?_)))) <;> with_reducible assumption)
            | ((with_reducible show G 13 _ _ _); exact hG.2 13 _ [(0, vr 53), (1, vr 18), (2, vi _)] _ _ rfl (ih13 _ _ (by assumption) (by assumption) (by refine ⟨by first | omega | (refine ⟨?_, ?_⟩ <;> (first | omega | (simp (disch := omega) only [w32_id, w64_id]; omega) | (simp (disch := omega) only [w32_id, w64_id] at *; omega) | (simp only [w32, w64] at *; omega) | exact (and32_le (by omega) (by omega)).1 | exact (and32_le (by omega) (by omega)).2 | exact (mulR (by omega) (by omega) (by omega) (by omega)).1 | exact (mulR (by omega) (by omega) (by omega) (by omega)).2 | (subst_vars; simp [upZ] at *; omega) | (subst_vars; simp [upZ] at *; simp only [w32, w64] at *; omega))) | (first | omega | (simp (disch := omega) only [w32_id, w64_id]; omega) | (simp (disch := omega) only [w32_id, w64_id] at *; omega) | (simp only [w32, w64] at *; omega) | exact (and32_le (by omega) (by omega)).1 | exact (and32_le (by omega) (by omega)).2 | exact (mulR (by omega) (by omega) (by omega) (by omega)).1 | exact (mulR (by omega) (by omega) (by omega) (by omega)).2 | (subst_vars; simp [upZ] at *; omega) | (subst_vars; simp [upZ] at *; simp only [w32, w64] at *; omega)), trivial⟩) (by first | omega | (simp (disch := omega) only [w32_id, w64_id]; omega) | (simp (disch := omega) only [w32_id, w64_id] at *; omega) | (simp only [w32, w64] at *; omega) | exact (and32_le (by omega) (by omega)).1 | exact (and32_le (by omega) (by omega)).2 | exact (mulR (by omega) (by omega) (by omega) (by omega)).1 | exact (mulR (by omega) (by omega) (by omega) (by omega)).2 | (subst_vars; simp [upZ] at *; omega) | (subst_vars; simp [upZ] at *; simp only [w32, w64] at *; omega))))
            | ((with_reducible show G 42 _ _ _); exact hG.2 42 _ [(0, vr 53), (1, vr 18), (2, vi _)] _ _ rfl (ih42 _ _ (by assumption) (by assumption) (by refine ⟨by first | omega | (refine ⟨?_, ?_⟩ <;> (first | omega | (simp (disch := omega) only [w32_id, w64_id]; omega) | (simp (disch := omega) only [w32_id, w64_id] at *; omega) | (simp only [w32, w64] at *; omega) | exact (and32_le (by omega) (by omega)).1 | exact (and32_le (by omega) (by omega)).2 | exact (mulR (by omega) (by omega) (by omega) (by omega)).1 | exact (mulR (by omega) (by omega) (by omega) (by omega)).2 | (subst_vars; simp [upZ] at *; omega) | (subst_vars; simp [upZ] at *; simp only [w32, w64] at *; omega))) | (first | omega | (simp (disch := omega) only [w32_id, w64_id]; omega) | (simp (disch := omega) only [w32_id, w64_id] at *; omega) | (simp only [w32, w64] at *; omega) | exact (and32_le (by omega) (by omega)).1 | exact (and32_le (by omega) (by omega)).2 | exact (mulR (by omega) (by omega) (by omega) (by omega)).1 | exact (mulR (by omega) (by omega) (by omega) (by omega)).2 | (subst_vars; simp [upZ] at *; omega) | (subst_vars; simp [upZ] at *; simp only [w32, w64] at *; omega)), trivial⟩) (by first | omega | (simp (disch := omega) only [w32_id, w64_id]; omega) | (simp (disch := omega) only [w32_id, w64_id] at *; omega) | (simp only [w32, w64] at *; omega) | exact (and32_le (by omega) (by omega)).1 | exact (and32_le (by omega) (by omega)).2 | exact (mulR (by omega) (by omega) (by omega) (by omega)).1 | exact (mulR (by omega) (by omega) (by omega) (by omega)).2 | (subst_vars; simp [upZ] at *; omega) | (subst_vars; simp [upZ] at *; simp only [w32, w64] at *; omega))))
            | ((with_reducible show G 83 _ _ _); exact hG.2 83 _ [(0, vr 53), (1, vr 18), (2, vi _)] _ _ rfl (ih83 _ _ (by assumption) (by assumption) (by refine ⟨by first | omega | (refine ⟨?_, ?_⟩ <;> (first | omega | (simp (disch := omega) only [w32_id, w64_id]; omega) | (simp (disch := omega) only [w32_id, w64_id] at *; omega) | (simp only [w32, w64] at *; omega) | exact (and32_le (by omega) (by omega)).1 | exact (and32_le (by omega) (by omega)).2 | exact (mulR (by omega) (by omega) (by omega) (by omega)).1 | exact (mulR (by omega) (by omega) (by omega) (by omega)).2 | (subst_vars; simp [upZ] at *; omega) | (subst_vars; simp [upZ] at *; simp only [w32, w64] at *; omega))) | (first | omega | (simp (disch := omega) only [w32_id, w64_id]; omega) | (simp (disch := omega) only [w32_id, w64_id] at *; omega) | (simp only [w32, w64] at *; omega) | exact (and32_le (by omega) (by omega)).1 | exact (and32_le (by omega) (by omega)).2 | exact (mulR (by omega) (by omega) (by omega) (by omega)).1 | exact (mulR (by omega) (by omega) (by omega) (by omega)).2 | (subst_vars; simp [upZ] at *; omega) | (subst_vars; simp [upZ] at *; simp only [w32, w64] at *; omega)), trivial⟩) (by first | omega | (simp (disch := omega) only [w32_id, w64_id]; omega) | (simp (disch := omega) only [w32_id, w64_id] at *; omega) | (simp only [w32, w64] at *; omega) | exact (and32_le (by omega) (by omega)).1 | exact (and32_le (by omega) (by omega)).2 | exact (mulR (by omega) (by omega) (by omega) (by omega)).1 | exact (mulR (by omega) (by omega) (by omega) (by omega)).2 | (subst_vars; simp [upZ] at *; omega) | (subst_vars; simp [upZ] at *; simp only [w32, w64] at *; omega))))
            | ((fail_if_success (first | (with_reducible show _ ≤ _) | (with_reducible show _ = _) | (with_reducible show _ ∨ _) | (with_reducible show _ < _) | (with_reducible show G _ _ _ _))); exact Exists.intro _ (Exists.intro _ ⟨rfl, rfl, by assumption, by assumption, by (first | omega | (simp (disch := omega) only [w32_id, w64_id]; omega) | (simp (disch := omega) only [w32_id, w64_id] at *; omega) | (simp only [w32, w64] at *; omega) | exact (and32_le (by omega) (by omega)).1 | exact (and32_le (by omega) (by omega)).2 | exact (mulR (by omega) (by omega) (by omega) (by omega)).1 | exact (mulR (by omega) (by omega) (by omega) (by omega)).2 | (subst_vars; simp [upZ] at *; omega) | (subst_vars; simp [upZ] at *; simp only [w32, w64] at *; omega)), by (first | omega | (simp (disch := omega) only [w32_id, w64_id]; omega) | (simp (disch := omega) only [w32_id, w64_id] at *; omega) | (simp only [w32, w64] at *; omega) | exact (and32_le (by omega) (by omega)).1 | exact (and32_le (by omega) (by omega)).2 | exact (mulR (by omega) (by omega) (by omega) (by omega)).1 | exact (mulR (by omega) (by omega) (by omega) (by omega)).2 | (subst_vars; simp [upZ] at *; omega) | (subst_vars; simp [upZ] at *; simp only [w32, w64] at *; omega))⟩))
            | ((fail_if_success (first | (with_reducible show _ ≤ _) | (with_reducible show _ = _) | (with_reducible show _ ∨ _) | (with_reducible show _ < _) | (with_reducible show G _ _ _ _))); exact Exists.intro _ (Exists.intro _ ⟨rfl, rfl, by assumption, by assumption⟩))
            | ((fail_if_success (first | (with_reducible show _ ≤ _) | (with_reducible show _ = _) | (with_reducible show _ ∨ _) | (with_reducible show _ < _) | (with_reducible show G _ _ _ _))); exact Exists.intro _ ⟨rfl, rfl, by assumption, by assumption⟩)
            | ((fail_if_success (first | (with_reducible show _ ≤ _) | (with_reducible show _ = _) | (with_reducible show _ ∨ _) | (with_reducible show _ < _) | (with_reducible show G _ _ _ _))); exact Or.inl (Exists.intro _ ⟨rfl, rfl, by assumption, by assumption⟩))
            | ((fail_if_success (first | (with_reducible show _ ≤ _) | (with_reducible show _ = _) | (with_reducible show _ ∨ _) | (with_reducible show _ < _) | (with_reducible show G _ _ _ _))); exact Or.inr (Exists.intro _ ⟨rfl, rfl, by assumption, by assumption⟩))
            | omega
            | rfl
            | exact trivial
            | decide
            | (show (0 : Int) < _; omega)
            | (show (0 : Int) < _; simp only [w64] at *; omega)
            | (simp only [w32, w64] at *; omega)
            | (first | omega | (simp (disch := omega) only [w32_id, w64_id]; omega) | (simp (disch := omega) only [w32_id, w64_id] at *; omega) | (simp only [w32, w64] at *; omega) | exact (and32_le (by omega) (by omega)).1 | exact (and32_le (by omega) (by omega)).2 | exact (mulR (by omega) (by omega) (by omega) (by omega)).1 | exact (mulR (by omega) (by omega) (by omega) (by omega)).2 | (subst_vars; simp [upZ] at *; omega) | (subst_vars; simp [upZ] at *; simp only [w32, w64] at *; omega))
            | skip
        · intro Z1 v2 hI1 hk1 hv hm
          obtain ⟨w0, -⟩ := hv
          clear hk hI
          refine wq_run hG n R0 [13, 42, 83] 900 _ _ _ _ ?_
          repeat' (first
              | with_reducible rfl
              | refine And.intro ?_ ?_
              | with_reducible exact True.intro
              | ((with_reducible show _ = true); rfl)
              | ((with_reducible show recvG _ _); rfl)
              | ((with_reducible show CI _); first | with_reducible assumption | assumption)
              | (fail_if_success (first | (with_reducible show _ ≤ _) | (with_reducible show _ = _) | (with_reducible show _ ∨ _) | (with_reducible show _ < _) | (with_reducible show G _ _ _ _))
                 first
                 | show G _ _ _ _
                 | (intro (Z2 : ZT) hZ2; have hZ3 : Z' = Z2 := hZ2.symm; subst hZ3)
                 | (intro (Z2 : ZT) hZ2; have hZ3 : Z1 = Z2 := hZ2.symm; subst hZ3)
                 | (intro (Z2 : ZT) hZ2; have hZ3 : Z = Z2 := hZ2.symm; subst hZ3)
                 | (refine ld_bnd (by first | with_reducible assumption | assumption) rfl ?_; intro _ _ _ _)
                 | (refine st_bnd (by first | with_reducible assumption | assumption) (by first | with_reducible assumption | assumption) (by decide) (fun lo hi hb => by first | (cases hb; done) | (cases hb; constructor <;> (first | omega | (simp (disch := omega) only [w32_id, w64_id]; omega) | (simp (disch := omega) only [w32_id, w64_id] at *; omega) | (simp only [w32, w64] at *; omega) | exact (and32_le (by omega) (by omega)).1 | exact (and32_le (by omega) (by omega)).2 | exact (mulR (by omega) (by omega) (by omega) (by omega)).1 | exact (mulR (by omega) (by omega) (by omega) (by omega)).2 | (subst_vars; simp [upZ] at *; omega) | (subst_vars; simp [upZ] at *; simp only [w32, w64] at *; omega)))) ?_; intro Z' _ _ _)
                 | (intro (r : Option PV) σ' hq
                    first
                    | (obtain ⟨rfl, rfl⟩ := hq)
                    | (obtain ⟨Z', x, rfl, rfl, hI2, hk2, hl2, hu2⟩ := hq; have hk3 := keeps_to (by first | with_reducible assumption | assumption) (by rfl) hk2; clear hk2)
                    | (obtain ⟨Z', x, rfl, rfl, hI2, hk2⟩ := hq; have hk3 := keeps_to (by first | with_reducible assumption | assumption) (by rfl) hk2; clear hk2)
                    | (rcases hq with ⟨Z', rfl, rfl, hI2, hk2⟩ | ⟨Z', rfl, rfl, hI2, hk2⟩ <;> (have hk3 := keeps_to (by first | with_reducible assumption | assumption) (by rfl) hk2; clear hk2))
                    | (obtain ⟨Z', rfl, rfl, hI2, hk2⟩ := hq; have hk3 := keeps_to (by first | with_reducible assumption | assumption) (by rfl) hk2; clear hk2))
                 | (intro hc; (try simp only [cmp3_c] at hc); simp only [cmpI] at hc)
                 | (show CI _; assumption)
                 | intro (_ : Int)
                 | intro (Z' : ZT)
                 | intro (_ : CI _)
                 | intro (_ : keeps _ _ _)
                 | intro (_ : _ ≤ _)
                 | intro (_ : _ = _)
                 | intro (_ : _ < _)
                 | intro (_ : _ ∨ _)))
          all_goals first
            | with_reducible rfl
            | ((with_reducible show _ = _); rfl)
            | ((with_reducible show recvG _ _); rfl)
            | with_reducible exact trivial
            | ((fail_if_success (first | (with_reducible show _ ≤ _) | (with_reducible show _ = _) | (with_reducible show _ ∨ _) | (with_reducible show _ < _) | (with_reducible show G _ _ _ _))); (refine Exists.intro _ (And.intro rfl (And.intro rfl (And.intro ?_ ?_)))) <;> with_reducible assumption)
            | ((with_reducible show G 13 _ _ _); exact hG.2 13 _ [(0, vr 53), (1, vr 18), (2, vi _)] _ _ rfl (ih13 _ _ (by assumption) (by assumption) (by refine ⟨by first | omega | (refine ⟨?_, ?_⟩ <;> (first | omega | (simp (disch := omega) only [w32_id, w64_id]; omega) | (simp (disch := omega) only [w32_id, w64_id] at *; omega) | (simp only [w32, w64] at *; omega) | exact (and32_le (by omega) (by omega)).1 | exact (and32_le (by omega) (by omega)).2 | exact (mulR (by omega) (by omega) (by omega) (by omega)).1 | exact (mulR (by omega) (by omega) (by omega) (by omega)).2 | (subst_vars; simp [upZ] at *; omega) | (subst_vars; simp [upZ] at *; simp only [w32, w64] at *; omega))) | (first | omega | (simp (disch := omega) only [w32_id, w64_id]; omega) | (simp (disch := omega) only [w32_id, w64_id] at *; omega) | (simp only [w32, w64] at *; omega) | exact (and32_le (by omega) (by omega)).1 | exact (and32_le (by omega) (by omega)).2 | exact (mulR (by omega) (by omega) (by omega) (by omega)).1 | exact (mulR (by omega) (by omega) (by omega) (by omega)).2 | (subst_vars; simp [upZ] at *; omega) | (subst_vars; simp [upZ] at *; simp only [w32, w64] at *; omega)), trivial⟩) (by first | omega | (simp (disch := omega) only [w32_id, w64_id]; omega) | (simp (disch := omega) only [w32_id, w64_id] at *; omega) | (simp only [w32, w64] at *; omega) | exact (and32_le (by omega) (by omega)).1 | exact (and32_le (by omega) (by omega)).2 | exact (mulR (by omega) (by omega) (by omega) (by omega)).1 | exact (mulR (by omega) (by omega) (by omega) (by omega)).2 | (subst_vars; simp [upZ] at *; omega) | (subst_vars; simp [upZ] at *; simp only [w32, w64] at *; omega))))
            | ((with_reducible show G 42 _ _ _); exact hG.2 42 _ [(0, vr 53), (1, vr 18), (2, vi _)] _ _ rfl (ih42 _ _ (by assumption) (by assumption) (by refine ⟨by first | omega | (refine ⟨?_, ?_⟩ <;> (first | omega | (simp (disch := omega) only [w32_id, w64_id]; omega) | (simp (disch := omega) only [w32_id, w64_id] at *; omega) | (simp only [w32, w64] at *; omega) | exact (and32_le (by omega) (by omega)).1 | exact (and32_le (by omega) (by omega)).2 | exact (mulR (by omega) (by omega) (by omega) (by omega)).1 | exact (mulR (by omega) (by omega) (by omega) (by omega)).2 | (subst_vars; simp [upZ] at *; omega) | (subst_vars; simp [upZ] at *; simp only [w32, w64] at *; omega))) | (first | omega | (simp (disch := omega) only [w32_id, w64_id]; omega) | (simp (disch := omega) only [w32_id, w64_id] at *; omega) | (simp only [w32, w64] at *; omega) | exact (and32_le (by omega) (by omega)).1 | exact (and32_le (by omega) (by omega)).2 | exact (mulR (by omega) (by omega) (by omega) (by omega)).1 | exact (mulR (by omega) (by omega) (by omega) (by omega)).2 | (subst_vars; simp [upZ] at *; omega) | (subst_vars; simp [upZ] at *; simp only [w32, w64] at *; omega)), trivial⟩) (by first | omega | (simp (disch := omega) only [w32_id, w64_id]; omega) | (simp (disch := omega) only [w32_id, w64_id] at *; omega) | (simp only [w32, w64] at *; omega) | exact (and32_le (by omega) (by omega)).1 | exact (and32_le (by omega) (by omega)).2 | exact (mulR (by omega) (by omega) (by omega) (by omega)).1 | exact (mulR (by omega) (by omega) (by omega) (by omega)).2 | (subst_vars; simp [upZ] at *; omega) | (subst_vars; simp [upZ] at *; simp only [w32, w64] at *; omega))))
            | ((with_reducible show G 83 _ _ _); exact hG.2 83 _ [(0, vr 53), (1, vr 18), (2, vi _)] _ _ rfl (ih83 _ _ (by assumption) (by assumption) (by refine ⟨by first | omega | (refine ⟨?_, ?_⟩ <;> (first | omega | (simp (disch := omega) only [w32_id, w64_id]; omega) | (simp (disch := omega) only [w32_id, w64_id] at *; omega) | (simp only [w32, w64] at *; omega) | exact (and32_le (by omega) (by omega)).1 | exact (and32_le (by omega) (by omega)).2 | exact (mulR (by omega) (by omega) (by omega) (by omega)).1 | exact (mulR (by omega) (by omega) (by omega) (by omega)).2 | (subst_vars; simp [upZ] at *; omega) | (subst_vars; simp [upZ] at *; simp only [w32, w64] at *; omega))) | (first | omega | (simp (disch := omega) only [w32_id, w64_id]; omega) | (simp (disch := omega) only [w32_id, w64_id] at *; omega) | (simp only [w32, w64] at *; omega) | exact (and32_le (by omega) (by omega)).1 | exact (and32_le (by omega) (by omega)).2 | exact (mulR (by omega) (by omega) (by omega) (by omega)).1 | exact (mulR (by omega) (by omega) (by omega) (by omega)).2 | (subst_vars; simp [upZ] at *; omega) | (subst_vars; simp [upZ] at *; simp only [w32, w64] at *; omega)), trivial⟩) (by first | omega | (simp (disch := omega) only [w32_id, w64_id]; omega) | (simp (disch := omega) only [w32_id, w64_id] at *; omega) | (simp only [w32, w64] at *; omega) | exact (and32_le (by omega) (by omega)).1 | exact (and32_le (by omega) (by omega)).2 | exact (mulR (by omega) (by omega) (by omega) (by omega)).1 | exact (mulR (by omega) (by omega) (by omega) (by omega)).2 | (subst_vars; simp [upZ] at *; omega) | (subst_vars; simp [upZ] at *; simp only [w32, w64] at *; omega))))
            | ((fail_if_success (first | (with_reducible show _ ≤ _) | (with_reducible show _ = _) | (with_reducible show _ ∨ _) | (with_reducible show _ < _) | (with_reducible show G _ _ _ _))); exact Exists.intro _ (Exists.intro _ ⟨rfl, rfl, by assumption, by assumption, by (first | omega | (simp (disch := omega) only [w32_id, w64_id]; omega) | (simp (disch := omega) only [w32_id, w64_id] at *; omega) | (simp only [w32, w64] at *; omega) | exact (and32_le (by omega) (by omega)).1 | exact (and32_le (by omega) (by omega)).2 | exact (mulR (by omega) (by omega) (by omega) (by omega)).1 | exact (mulR (by omega) (by omega) (by omega) (by omega)).2 | (subst_vars; simp [upZ] at *; omega) | (subst_vars; simp [upZ] at *; simp only [w32, w64] at *; omega)), by (first | omega | (simp (disch := omega) only [w32_id, w64_id]; omega) | (simp (disch := omega) only [w32_id, w64_id] at *; omega) | (simp only [w32, w64] at *; omega) | exact (and32_le (by omega) (by omega)).1 | exact (and32_le (by omega) (by omega)).2 | exact (mulR (by omega) (by omega) (by omega) (by omega)).1 | exact (mulR (by omega) (by omega) (by omega) (by omega)).2 | (subst_vars; simp [upZ] at *; omega) | (subst_vars; simp [upZ] at *; simp only [w32, w64] at *; omega))⟩))
            | ((fail_if_success (first | (with_reducible show _ ≤ _) | (with_reducible show _ = _) | (with_reducible show _ ∨ _) | (with_reducible show _ < _) | (with_reducible show G _ _ _ _))); exact Exists.intro _ (Exists.intro _ ⟨rfl, rfl, by assumption, by assumption⟩))
            | ((fail_if_success (first | (with_reducible show _ ≤ _) | (with_reducible show _ = _) | (with_reducible show _ ∨ _) | (with_reducible show _ < _) | (with_reducible show G _ _ _ _))); exact Exists.intro _ ⟨rfl, rfl, by assumption, by assumption⟩)
            | ((fail_if_success (first | (with_reducible show _ ≤ _) | (with_reducible show _ = _) | (with_reducible show _ ∨ _) | (with_reducible show _ < _) | (with_reducible show G _ _ _ _))); exact Or.inl (Exists.intro _ ⟨rfl, rfl, by assumption, by assumption⟩))
            | ((fail_if_success (first | (with_reducible show _ ≤ _) | (with_reducible show _ = _) | (with_reducible show _ ∨ _) | (with_reducible show _ < _) | (with_reducible show G _ _ _ _))); exact Or.inr (Exists.intro _ ⟨rfl, rfl, by assumption, by assumption⟩))
            | omega
            | rfl
            | exact trivial
            | decide
            | (show (0 : Int) < _; omega)
            | (show (0 : Int) < _; simp only [w64] at *; omega)
            | (simp only [w32, w64] at *; omega)
            | (first | omega | (simp (disch := omega) only [w32_id, w64_id]; omega) | (simp (disch := omega) only [w32_id, w64_id] at *; omega) | (simp only [w32, w64] at *; omega) | exact (and32_le (by omega) (by omega)).1 | exact (and32_le (by omega) (by omega)).2 | exact (mulR (by omega) (by omega) (by omega) (by omega)).1 | exact (mulR (by omega) (by omega) (by omega) (by omega)).2 | (subst_vars; simp [upZ] at *; omega) | (subst_vars; simp [upZ] at *; simp only [w32, w64] at *; omega))
            | skip
        · intro Z1 v2 hI1 hk1 hv hm
          obtain ⟨w0, -⟩ := hv
          clear hk hI
          refine wq_run hG n R0 [13, 42, 83] 900 _ _ _ _ ?_
          repeat' (first
              | with_reducible rfl
              | refine And.intro ?_ ?_
              | with_reducible exact True.intro
              | ((with_reducible show _ = true); rfl)
              | ((with_reducible show recvG _ _); rfl)
              | ((with_reducible show CI _); first | with_reducible assumption | assumption)
              | (fail_if_success (first | (with_reducible show _ ≤ _) | (with_reducible show _ = _) | (with_reducible show _ ∨ _) | (with_reducible show _ < _) | (with_reducible show G _ _ _ _))
                 first
                 | show G _ _ _ _
                 | (intro (Z2 : ZT) hZ2; have hZ3 : Z' = Z2 := hZ2.symm; subst hZ3)
                 | (intro (Z2 : ZT) hZ2; have hZ3 : Z1 = Z2 := hZ2.symm; subst hZ3)
                 | (intro (Z2 : ZT) hZ2; have hZ3 : Z = Z2 := hZ2.symm; subst hZ3)
                 | (refine ld_bnd (by first | with_reducible assumption | assumption) rfl ?_; intro _ _ _ _)
                 | (refine st_bnd (by first | with_reducible assumption | assumption) (by first | with_reducible assumption | assumption) (by decide) (fun lo hi hb => by first | (cases hb; done) | (cases hb; constructor <;> (first | omega | (simp (disch := omega) only [w32_id, w64_id]; omega) | (simp (disch := omega) only [w32_id, w64_id] at *; omega) | (simp only [w32, w64] at *; omega) | exact (and32_le (by omega) (by omega)).1 | exact (and32_le (by omega) (by omega)).2 | exact (mulR (by omega) (by omega) (by omega) (by omega)).1 | exact (mulR (by omega) (by omega) (by omega) (by omega)).2 | (subst_vars; simp [upZ] at *; omega) | (subst_vars; simp [upZ] at *; simp only [w32, w64] at *; omega)))) ?_; intro Z' _ _ _)
                 | (intro (r : Option PV) σ' hq
                    first
                    | (obtain ⟨rfl, rfl⟩ := hq)
                    | (obtain ⟨Z', x, rfl, rfl, hI2, hk2, hl2, hu2⟩ := hq; have hk3 := keeps_to (by first | with_reducible assumption | assumption) (by rfl) hk2; clear hk2)
                    | (obtain ⟨Z', x, rfl, rfl, hI2, hk2⟩ := hq; have hk3 := keeps_to (by first | with_reducible assumption | assumption) (by rfl) hk2; clear hk2)
                    | (rcases hq with ⟨Z', rfl, rfl, hI2, hk2⟩ | ⟨Z', rfl, rfl, hI2, hk2⟩ <;> (have hk3 := keeps_to (by first | with_reducible assumption | assumption) (by rfl) hk2; clear hk2))
                    | (obtain ⟨Z', rfl, rfl, hI2, hk2⟩ := hq; have hk3 := keeps_to (by first | with_reducible assumption | assumption) (by rfl) hk2; clear hk2))
                 | (intro hc; (try simp only [cmp3_c] at hc); simp only [cmpI] at hc)
                 | (show CI _; assumption)
                 | intro (_ : Int)
                 | intro (Z' : ZT)
                 | intro (_ : CI _)
                 | intro (_ : keeps _ _ _)
                 | intro (_ : _ ≤ _)
                 | intro (_ : _ = _)
                 | intro (_ : _ < _)
                 | intro (_ : _ ∨ _)))
          all_goals first
            | with_reducible rfl
            | ((with_reducible show _ = _); rfl)
            | ((with_reducible show recvG _ _); rfl)
            | with_reducible exact trivial
            | ((fail_if_success (first | (with_reducible show _ ≤ _) | (with_reducible show _ = _) | (with_reducible show _ ∨ _) | (with_reducible show _ < _) | (with_reducible show G _ _ _ _))); (refine Exists.intro _ (And.intro rfl (And.intro rfl (And.intro ?_ ?_)))) <;> with_reducible assumption)
            | ((with_reducible show G 13 _ _ _); exact hG.2 13 _ [(0, vr 53), (1, vr 18), (2, vi _)] _ _ rfl (ih13 _ _ (by assumption) (by assumption) (by refine ⟨by first | omega | (refine ⟨?_, ?_⟩ <;> (first | omega | (simp (disch := omega) only [w32_id, w64_id]; omega) | (simp (disch := omega) only [w32_id, w64_id] at *; omega) | (simp only [w32, w64] at *; omega) | exact (and32_le (by omega) (by omega)).1 | exact (and32_le (by omega) (by omega)).2 | exact (mulR (by omega) (by omega) (by omega) (by omega)).1 | exact (mulR (by omega) (by omega) (by omega) (by omega)).2 | (subst_vars; simp [upZ] at *; omega) | (subst_vars; simp [upZ] at *; simp only [w32, w64] at *; omega))) | (first | omega | (simp (disch := omega) only [w32_id, w64_id]; omega) | (simp (disch := omega) only [w32_id, w64_id] at *; omega) | (simp only [w32, w64] at *; omega) | exact (and32_le (by omega) (by omega)).1 | exact (and32_le (by omega) (by omega)).2 | exact (mulR (by omega) (by omega) (by omega) (by omega)).1 | exact (mulR (by omega) (by omega) (by omega) (by omega)).2 | (subst_vars; simp [upZ] at *; omega) | (subst_vars; simp [upZ] at *; simp only [w32, w64] at *; omega)), trivial⟩) (by first | omega | (simp (disch := omega) only [w32_id, w64_id]; omega) | (simp (disch := omega) only [w32_id, w64_id] at *; omega) | (simp only [w32, w64] at *; omega) | exact (and32_le (by omega) (by omega)).1 | exact (and32_le (by omega) (by omega)).2 | exact (mulR (by omega) (by omega) (by omega) (by omega)).1 | exact (mulR (by omega) (by omega) (by omega) (by omega)).2 | (subst_vars; simp [upZ] at *; omega) | (subst_vars; simp [upZ] at *; simp only [w32, w64] at *; omega))))
            | ((with_reducible show G 42 _ _ _); exact hG.2 42 _ [(0, vr 53), (1, vr 18), (2, vi _)] _ _ rfl (ih42 _ _ (by assumption) (by assumption) (by refine ⟨by first | omega | (refine ⟨?_, ?_⟩ <;> (first | omega | (simp (disch := omega) only [w32_id, w64_id]; omega) | (simp (disch := omega) only [w32_id, w64_id] at *; omega) | (simp only [w32, w64] at *; omega) | exact (and32_le (by omega) (by omega)).1 | exact (and32_le (by omega) (by omega)).2 | exact (mulR (by omega) (by omega) (by omega) (by omega)).1 | exact (mulR (by omega) (by omega) (by omega) (by omega)).2 | (subst_vars; simp [upZ] at *; omega) | (subst_vars; simp [upZ] at *; simp only [w32, w64] at *; omega))) | (first | omega | (simp (disch := omega) only [w32_id, w64_id]; omega) | (simp (disch := omega) only [w32_id, w64_id] at *; omega) | (simp only [w32, w64] at *; omega) | exact (and32_le (by omega) (by omega)).1 | exact (and32_le (by omega) (by omega)).2 | exact (mulR (by omega) (by omega) (by omega) (by omega)).1 | exact (mulR (by omega) (by omega) (by omega) (by omega)).2 | (subst_vars; simp [upZ] at *; omega) | (subst_vars; simp [upZ] at *; simp only [w32, w64] at *; omega)), trivial⟩) (by first | omega | (simp (disch := omega) only [w32_id, w64_id]; omega) | (simp (disch := omega) only [w32_id, w64_id] at *; omega) | (simp only [w32, w64] at *; omega) | exact (and32_le (by omega) (by omega)).1 | exact (and32_le (by omega) (by omega)).2 | exact (mulR (by omega) (by omega) (by omega) (by omega)).1 | exact (mulR (by omega) (by omega) (by omega) (by omega)).2 | (subst_vars; simp [upZ] at *; omega) | (subst_vars; simp [upZ] at *; simp only [w32, w64] at *; omega))))
            | ((with_reducible show G 83 _ _ _); exact hG.2 83 _ [(0, vr 53), (1, vr 18), (2, vi _)] _ _ rfl (ih83 _ _ (by assumption) (by assumption) (by refine ⟨by first | omega | (refine ⟨?_, ?_⟩ <;> (first | omega | (simp (disch := omega) only [w32_id, w64_id]; omega) | (simp (disch := omega) only [w32_id, w64_id] at *; omega) | (simp only [w32, w64] at *; omega) | exact (and32_le (by omega) (by omega)).1 | exact (and32_le (by omega) (by omega)).2 | exact (mulR (by omega) (by omega) (by omega) (by omega)).1 | exact (mulR (by omega) (by omega) (by omega) (by omega)).2 | (subst_vars; simp [upZ] at *; omega) | (subst_vars; simp [upZ] at *; simp only [w32, w64] at *; omega))) | (first | omega | (simp (disch := omega) only [w32_id, w64_id]; omega) | (simp (disch := omega) only [w32_id, w64_id] at *; omega) | (simp only [w32, w64] at *; omega) | exact (and32_le (by omega) (by omega)).1 | exact (and32_le (by omega) (by omega)).2 | exact (mulR (by omega) (by omega) (by omega) (by omega)).1 | exact (mulR (by omega) (by omega) (by omega) (by omega)).2 | (subst_vars; simp [upZ] at *; omega) | (subst_vars; simp [upZ] at *; simp only [w32, w64] at *; omega)), trivial⟩) (by first | omega | (simp (disch := omega) only [w32_id, w64_id]; omega) | (simp (disch := omega) only [w32_id, w64_id] at *; omega) | (simp only [w32, w64] at *; omega) | exact (and32_le (by omega) (by omega)).1 | exact (and32_le (by omega) (by omega)).2 | exact (mulR (by omega) (by omega) (by omega) (by omega)).1 | exact (mulR (by omega) (by omega) (by omega) (by omega)).2 | (subst_vars; simp [upZ] at *; omega) | (subst_vars; simp [upZ] at *; simp only [w32, w64] at *; omega))))
            | ((fail_if_success (first | (with_reducible show _ ≤ _) | (with_reducible show _ = _) | (with_reducible show _ ∨ _) | (with_reducible show _ < _) | (with_reducible show G _ _ _ _))); exact Exists.intro _ (Exists.intro _ ⟨rfl, rfl, by assumption, by assumption, by (first | omega | (simp (disch := omega) only [w32_id, w64_id]; omega) | (simp (disch := omega) only [w32_id, w64_id] at *; omega) | (simp only [w32, w64] at *; omega) | exact (and32_le (by omega) (by omega)).1 | exact (and32_le (by omega) (by omega)).2 | exact (mulR (by omega) (by omega) (by omega) (by omega)).1 | exact (mulR (by omega) (by omega) (by omega) (by omega)).2 | (subst_vars; simp [upZ] at *; omega) | (subst_vars; simp [upZ] at *; simp only [w32, w64] at *; omega)), by (first | omega | (simp (disch := omega) only [w32_id, w64_id]; omega) | (simp (disch := omega) only [w32_id, w64_id] at *; omega) | (simp only [w32, w64] at *; omega) | exact (and32_le (by omega) (by omega)).1 | exact (and32_le (by omega) (by omega)).2 | exact (mulR (by omega) (by omega) (by omega) (by omega)).1 | exact (mulR (by omega) (by omega) (by omega) (by omega)).2 | (subst_vars; simp [upZ] at *; omega) | (subst_vars; simp [upZ] at *; simp only [w32, w64] at *; omega))⟩))
            | ((fail_if_success (first | (with_reducible show _ ≤ _) | (with_reducible show _ = _) | (with_reducible show _ ∨ _) | (with_reducible show _ < _) | (with_reducible show G _ _ _ _))); exact Exists.intro _ (Exists.intro _ ⟨rfl, rfl, by assumption, by assumption⟩))
            | ((fail_if_success (first | (with_reducible show _ ≤ _) | (with_reducible show _ = _) | (with_reducible show _ ∨ _) | (with_reducible show _ < _) | (with_reducible show G _ _ _ _))); exact Exists.intro _ ⟨rfl, rfl, by assumption, by assumption⟩)
            | ((fail_if_success (first | (with_reducible show _ ≤ _) | (with_reducible show _ = _) | (with_reducible show _ ∨ _) | (with_reducible show _ < _) | (with_reducible show G _ _ _ _))); exact Or.inl (Exists.intro _ ⟨rfl, rfl, by assumption, by assumption⟩))
            | ((fail_if_success (first | (with_reducible show _ ≤ _) | (with_reducible show _ = _) | (with_reducible show _ ∨ _) | (with_reducible show _ < _) | (with_reducible show G _ _ _ _))); exact Or.inr (Exists.intro _ ⟨rfl, rfl, by assumption, by assumption⟩))
            | omega
            | rfl
            | exact trivial
            | decide
            | (show (0 : Int) < _; omega)
            | (show (0 : Int) < _; simp only [w64] at *; omega)
            | (simp only [w32, w64] at *; omega)
            | (first | omega | (simp (disch := omega) only [w32_id, w64_id]; omega) | (simp (disch := omega) only [w32_id, w64_id] at *; omega) | (simp only [w32, w64] at *; omega) | exact (and32_le (by omega) (by omega)).1 | exact (and32_le (by omega) (by omega)).2 | exact (mulR (by omega) (by omega) (by omega) (by omega)).1 | exact (mulR (by omega) (by omega) (by omega) (by omega)).2 | (subst_vars; simp [upZ] at *; omega) | (subst_vars; simp [upZ] at *; simp only [w32, w64] at *; omega))
            | skip
    refine wq_run hG n R0 [13, 42, 83] 900 _ _ _ _ ?_
    repeat' (first
        | with_reducible rfl
        | refine And.intro ?_ ?_
        | with_reducible exact True.intro
        | ((with_reducible show _ = true); rfl)
        | ((with_reducible show recvG _ _); rfl)
        | ((with_reducible show CI _); first | with_reducible assumption | assumption)
        | (fail_if_success (first | (with_reducible show _ ≤ _) | (with_reducible show _ = _) | (with_reducible show _ ∨ _) | (with_reducible show _ < _) | (with_reducible show G _ _ _ _))
           first
           | show G _ _ _ _
           | (intro (Z2 : ZT) hZ2; have hZ3 : Z' = Z2 := hZ2.symm; subst hZ3)
           | (intro (Z2 : ZT) hZ2; have hZ3 : Z1 = Z2 := hZ2.symm; subst hZ3)
           | (intro (Z2 : ZT) hZ2; have hZ3 : Z = Z2 := hZ2.symm; subst hZ3)
           | (refine ld_bnd (by first | with_reducible assumption | assumption) rfl ?_; intro _ _ _ _)
           | (refine st_bnd (by first | with_reducible assumption | assumption) (by first | with_reducible assumption | assumption) (by decide) (fun lo hi hb => by first | (cases hb; done) | (cases hb; constructor <;> (first | omega | (simp (disch := omega) only [w32_id, w64_id]; omega) | (simp (disch := omega) only [w32_id, w64_id] at *; omega) | (simp only [w32, w64] at *; omega) | exact (and32_le (by omega) (by omega)).1 | exact (and32_le (by omega) (by omega)).2 | exact (mulR (by omega) (by omega) (by omega) (by omega)).1 | exact (mulR (by omega) (by omega) (by omega) (by omega)).2 | (subst_vars; simp [upZ] at *; omega) | (subst_vars; simp [upZ] at *; simp only [w32, w64] at *; omega)))) ?_; intro Z' _ _ _)
           | (intro (r : Option PV) σ' hq
              first
              | (obtain ⟨rfl, rfl⟩ := hq)
              | (obtain ⟨Z', x, rfl, rfl, hI2, hk2, hl2, hu2⟩ := hq; have hk3 := keeps_to (by first | with_reducible assumption | assumption) (by rfl) hk2; clear hk2)
              | (obtain ⟨Z', x, rfl, rfl, hI2, hk2⟩ := hq; have hk3 := keeps_to (by first | with_reducible assumption | assumption) (by rfl) hk2; clear hk2)
              | (rcases hq with ⟨Z', rfl, rfl, hI2, hk2⟩ | ⟨Z', rfl, rfl, hI2, hk2⟩ <;> (have hk3 := keeps_to (by first | with_reducible assumption | assumption) (by rfl) hk2; clear hk2))
              | (obtain ⟨Z', rfl, rfl, hI2, hk2⟩ := hq; have hk3 := keeps_to (by first | with_reducible assumption | assumption) (by rfl) hk2; clear hk2))
           | (intro hc; (try simp only [cmp3_c] at hc); simp only [cmpI] at hc)
           | (show CI _; assumption)
           | intro (_ : Int)
           | intro (Z' : ZT)
           | intro (_ : CI _)
           | intro (_ : keeps _ _ _)
           | intro (_ : _ ≤ _)
           | intro (_ : _ = _)
           | intro (_ : _ < _)
           | intro (_ : _ ∨ _)))
    all_goals (try obtain ⟨lp13, lp42, lp83⟩ := loop 1000000)
    all_goals first
      | with_reducible rfl
      | ((with_reducible show _ = _); rfl)
      | ((with_reducible show recvG _ _); rfl)
      | with_reducible exact trivial
      | ((fail_if_success (first | (with_reducible show _ ≤ _) | (with_reducible show _ = _) | (with_reducible show _ ∨ _) | (with_reducible show _ < _) | (with_reducible show G _ _ _ _))); (refine Exists.intro _ (And.intro rfl (And.intro rfl (And.intro ?_ ?_)))) <;> with_reducible assumption)
      | ((with_reducible show G 13 _ _ _); exact hG.2 13 _ [(0, vr 53), (1, vr 18), (2, vi _)] _ _ rfl (lp13 _ _ (by assumption) (by assumption) (by refine ⟨by first | omega | (refine ⟨?_, ?_⟩ <;> (first | omega | (simp (disch := omega) only [w32_id, w64_id]; omega) | (simp (disch := omega) only [w32_id, w64_id] at *; omega) | (simp only [w32, w64] at *; omega) | exact (and32_le (by omega) (by omega)).1 | exact (and32_le (by omega) (by omega)).2 | exact (mulR (by omega) (by omega) (by omega) (by omega)).1 | exact (mulR (by omega) (by omega) (by omega) (by omega)).2 | (subst_vars; simp [upZ] at *; omega) | (subst_vars; simp [upZ] at *; simp only [w32, w64] at *; omega))) | (first | omega | (simp (disch := omega) only [w32_id, w64_id]; omega) | (simp (disch := omega) only [w32_id, w64_id] at *; omega) | (simp only [w32, w64] at *; omega) | exact (and32_le (by omega) (by omega)).1 | exact (and32_le (by omega) (by omega)).2 | exact (mulR (by omega) (by omega) (by omega) (by omega)).1 | exact (mulR (by omega) (by omega) (by omega) (by omega)).2 | (subst_vars; simp [upZ] at *; omega) | (subst_vars; simp [upZ] at *; simp only [w32, w64] at *; omega)), trivial⟩) (by first | omega | (simp (disch := omega) only [w32_id, w64_id]; omega) | (simp (disch := omega) only [w32_id, w64_id] at *; omega) | (simp only [w32, w64] at *; omega) | exact (and32_le (by omega) (by omega)).1 | exact (and32_le (by omega) (by omega)).2 | exact (mulR (by omega) (by omega) (by omega) (by omega)).1 | exact (mulR (by omega) (by omega) (by omega) (by omega)).2 | (subst_vars; simp [upZ] at *; omega) | (subst_vars; simp [upZ] at *; simp only [w32, w64] at *; omega))))
      | ((with_reducible show G 42 _ _ _); exact hG.2 42 _ [(0, vr 53), (1, vr 18), (2, vi _)] _ _ rfl (lp42 _ _ (by assumption) (by assumption) (by refine ⟨by first | omega | (refine ⟨?_, ?_⟩ <;> (first | omega | (simp (disch := omega) only [w32_id, w64_id]; omega) | (simp (disch := omega) only [w32_id, w64_id] at *; omega) | (simp only [w32, w64] at *; omega) | exact (and32_le (by omega) (by omega)).1 | exact (and32_le (by omega) (by omega)).2 | exact (mulR (by omega) (by omega) (by omega) (by omega)).1 | exact (mulR (by omega) (by omega) (by omega) (by omega)).2 | (subst_vars; simp [upZ] at *; omega) | (subst_vars; simp [upZ] at *; simp only [w32, w64] at *; omega))) | (first | omega | (simp (disch := omega) only [w32_id, w64_id]; omega) | (simp (disch := omega) only [w32_id, w64_id] at *; omega) | (simp only [w32, w64] at *; omega) | exact (and32_le (by omega) (by omega)).1 | exact (and32_le (by omega) (by omega)).2 | exact (mulR (by omega) (by omega) (by omega) (by omega)).1 | exact (mulR (by omega) (by omega) (by omega) (by omega)).2 | (subst_vars; simp [upZ] at *; omega) | (subst_vars; simp [upZ] at *; simp only [w32, w64] at *; omega)), trivial⟩) (by first | omega | (simp (disch := omega) only [w32_id, w64_id]; omega) | (simp (disch := omega) only [w32_id, w64_id] at *; omega) | (simp only [w32, w64] at *; omega) | exact (and32_le (by omega) (by omega)).1 | exact (and32_le (by omega) (by omega)).2 | exact (mulR (by omega) (by omega) (by omega) (by omega)).1 | exact (mulR (by omega) (by omega) (by omega) (by omega)).2 | (subst_vars; simp [upZ] at *; omega) | (subst_vars; simp [upZ] at *; simp only [w32, w64] at *; omega))))
      | ((with_reducible show G 83 _ _ _); exact hG.2 83 _ [(0, vr 53), (1, vr 18), (2, vi _)] _ _ rfl (lp83 _ _ (by assumption) (by assumption) (by refine ⟨by first | omega | (refine ⟨?_, ?_⟩ <;> (first | omega | (simp (disch := omega) only [w32_id, w64_id]; omega) | (simp (disch := omega) only [w32_id, w64_id] at *; omega) | (simp only [w32, w64] at *; omega) | exact (and32_le (by omega) (by omega)).1 | exact (and32_le (by omega) (by omega)).2 | exact (mulR (by omega) (by omega) (by omega) (by omega)).1 | exact (mulR (by omega) (by omega) (by omega) (by omega)).2 | (subst_vars; simp [upZ] at *; omega) | (subst_vars; simp [upZ] at *; simp only [w32, w64] at *; omega))) | (first | omega | (simp (disch := omega) only [w32_id, w64_id]; omega) | (simp (disch := omega) only [w32_id, w64_id] at *; omega) | (simp only [w32, w64] at *; omega) | exact (and32_le (by omega) (by omega)).1 | exact (and32_le (by omega) (by omega)).2 | exact (mulR (by omega) (by omega) (by omega) (by omega)).1 | exact (mulR (by omega) (by omega) (by omega) (by omega)).2 | (subst_vars; simp [upZ] at *; omega) | (subst_vars; simp [upZ] at *; simp only [w32, w64] at *; omega)), trivial⟩) (by first | omega | (simp (disch := omega) only [w32_id, w64_id]; omega) | (simp (disch := omega) only [w32_id, w64_id] at *; omega) | (simp only [w32, w64] at *; omega) | exact (and32_le (by omega) (by omega)).1 | exact (and32_le (by omega) (by omega)).2 | exact (mulR (by omega) (by omega) (by omega) (by omega)).1 | exact (mulR (by omega) (by omega) (by omega) (by omega)).2 | (subst_vars; simp [upZ] at *; omega) | (subst_vars; simp [upZ] at *; simp only [w32, w64] at *; omega))))
      | ((fail_if_success (first | (with_reducible show _ ≤ _) | (with_reducible show _ = _) | (with_reducible show _ ∨ _) | (with_reducible show _ < _) | (with_reducible show G _ _ _ _))); exact Exists.intro _ (Exists.intro _ ⟨rfl, rfl, by assumption, by assumption, by (first | omega | (simp (disch := omega) only [w32_id, w64_id]; omega) | (simp (disch := omega) only [w32_id, w64_id] at *; omega) | (simp only [w32, w64] at *; omega) | exact (and32_le (by omega) (by omega)).1 | exact (and32_le (by omega) (by omega)).2 | exact (mulR (by omega) (by omega) (by omega) (by omega)).1 | exact (mulR (by omega) (by omega) (by omega) (by omega)).2 | (subst_vars; simp [upZ] at *; omega) | (subst_vars; simp [upZ] at *; simp only [w32, w64] at *; omega)), by (first | omega | (simp (disch := omega) only [w32_id, w64_id]; omega) | (simp (disch := omega) only [w32_id, w64_id] at *; omega) | (simp only [w32, w64] at *; omega) | exact (and32_le (by omega) (by omega)).1 | exact (and32_le (by omega) (by omega)).2 | exact (mulR (by omega) (by omega) (by omega) (by omega)).1 | exact (mulR (by omega) (by omega) (by omega) (by omega)).2 | (subst_vars; simp [upZ] at *; omega) | (subst_vars; simp [upZ] at *; simp only [w32, w64] at *; omega))⟩))
      | ((fail_if_success (first | (with_reducible show _ ≤ _) | (with_reducible show _ = _) | (with_reducible show _ ∨ _) | (with_reducible show _ < _) | (with_reducible show G _ _ _ _))); exact Exists.intro _ (Exists.intro _ ⟨rfl, rfl, by assumption, by assumption⟩))
      | ((fail_if_success (first | (with_reducible show _ ≤ _) | (with_reducible show _ = _) | (with_reducible show _ ∨ _) | (with_reducible show _ < _) | (with_reducible show G _ _ _ _))); exact Exists.intro _ ⟨rfl, rfl, by assumption, by assumption⟩)
      | ((fail_if_success (first | (with_reducible show _ ≤ _) | (with_reducible show _ = _) | (with_reducible show _ ∨ _) | (with_reducible show _ < _) | (with_reducible show G _ _ _ _))); exact Or.inl (Exists.intro _ ⟨rfl, rfl, by assumption, by assumption⟩))
      | ((fail_if_success (first | (with_reducible show _ ≤ _) | (with_reducible show _ = _) | (with_reducible show _ ∨ _) | (with_reducible show _ < _) | (with_reducible show G _ _ _ _))); exact Or.inr (Exists.intro _ ⟨rfl, rfl, by assumption, by assumption⟩))
      | omega
      | rfl
      | exact trivial
      | decide
      | (show (0 : Int) < _; omega)
      | (show (0 : Int) < _; simp only [w64] at *; omega)
      | (simp only [w32, w64] at *; omega)
      | (first | omega | (simp (disch := omega) only [w32_id, w64_id]; omega) | (simp (disch := omega) only [w32_id, w64_id] at *; omega) | (simp only [w32, w64] at *; omega) | exact (and32_le (by omega) (by omega)).1 | exact (and32_le (by omega) (by omega)).2 | exact (mulR (by omega) (by omega) (by omega) (by omega)).1 | exact (mulR (by omega) (by omega) (by omega) (by omega)).2 | (subst_vars; simp [upZ] at *; omega) | (subst_vars; simp [upZ] at *; simp only [w32, w64] at *; omega))
      | skip
